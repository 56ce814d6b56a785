/-! what the methods do -/
def f_X1_serveWrite_108  (σ : eMem) : Option (Unit × eMem) :=
  some ((), σ)
set_option maxHeartbeats 4000000 in
set_option maxRecDepth 20000 in
theorem s_X1_serveWrite_108  (σ : eMem) : Snd false none 2 m_X1_serveWrite (f_X1_serveWrite_108 σ) (cN iU) (108, [], [], hp σ, 0, 0) := by
  unfold f_X1_serveWrite_108
  exact T_ret rfl
def f_X1_serveWrite_77 (x0 : Nat) (x1 : Nat) (x2 : Int32) (x3 : Int32) (x4 : Int32) (σ : eMem) : Option (Unit × eMem) :=
  if x4 ≤ (0 : Int32) then
    if (KH x1).1 = 2 then
      Option.bind (f_X2_belongTo x1 x3 σ) (fun r1 =>
        if (KH x1).1 = 2 then
          if (KH x0).1 = 1 then
            Option.bind (f_X1_answer x0 (8 : Int32) x2 (r1.2.1 x1 0) r1.2) (fun r2 =>
              f_X1_serveWrite_108  r2.2
              )
          else none
        else none
        )
    else none
  else
    if (KH x1).1 = 2 then
      Option.bind (f_X2_waitForAnswers x1 x2 x4 σ) (fun r3 =>
        f_X1_serveWrite_108  r3.2
        )
    else none
set_option maxHeartbeats 4000000 in
set_option maxRecDepth 20000 in
theorem s_X1_serveWrite_77 (x0 : Nat) (x1 : Nat) (x2 : Int32) (x3 : Int32) (x4 : Int32) (σ : eMem) : Snd false none 2 m_X1_serveWrite (f_X1_serveWrite_77 x0 x1 x2 x3 x4 σ) (cN iU) (77, [(0, .inr (.inr (x0))), (1, .inr (.inr (x1))), (2, .inl (x2)), (3, .inl (x3)), (4, .inl (x4))], [], hp σ, 0, 0) := by
  unfold f_X1_serveWrite_77
  refine T_go (S' := (79, [(0, .inr (.inr (x0))), (1, .inr (.inr (x1))), (2, .inl (x2)), (3, .inl (x3)), (4, .inl (x4))], [.inl (x4)], hp σ, 0, 0)) 1 rfl ?_
  refine T_if_le 92 rfl rfl (fun _ => ?_) (fun _ => ?_)
  · refine T_go (S' := (94, [(0, .inr (.inr (x0))), (1, .inr (.inr (x1))), (2, .inl (x2)), (3, .inl (x3)), (4, .inl (x4))], [.inl (x3), .inr (.inr (x1))], hp σ, 0, 0)) 2 rfl ?_
    refine T_cv (i := iU) (as := [.inr (.inr (x1)), .inl (x3)]) (rest := []) (st := [.inl (x3), .inr (.inr (x1))]) rfl rfl rfl ⟨lb rfl, lb rfl, lb rfl, lb rfl⟩ (fun _ h => Ew_le (lb rfl) (s_X2_belongTo x1 x3 σ _ h)) (fun _ r1 => ?_)
    show Snd false none _ _ _ (cN iU) (97, [(0, .inr (.inr (x0))), (1, .inr (.inr (x1))), (2, .inl (x2)), (3, .inl (x3)), (4, .inl (x4))], [], hp r1.2, 0, 0)
    refine T_go (S' := (102, [(0, .inr (.inr (x0))), (1, .inr (.inr (x1))), (2, .inl (x2)), (3, .inl (x3)), (4, .inl (x4))], [.inr (.inr (x1)), .inl (x2), .inl ((8 : Int32)), .inr (.inr (x0))], hp r1.2, 0, 0)) 4 rfl ?_
    refine T_getI rfl (fun _ => ?_)
    refine T_cv (i := iU) (as := [.inr (.inr (x0)), .inl ((8 : Int32)), .inl (x2), .inl ((r1.2.1 x1 0))]) (rest := []) (st := [.inl ((r1.2.1 x1 0)), .inl (x2), .inl ((8 : Int32)), .inr (.inr (x0))]) rfl rfl rfl ⟨lb rfl, lb rfl, lb rfl, lb rfl⟩ (fun _ h => Ew_le (lb rfl) (s_X1_answer x0 (8 : Int32) x2 (r1.2.1 x1 0) r1.2 _ h)) (fun _ r2 => ?_)
    show Snd false none _ _ _ (cN iU) (108, [(0, .inr (.inr (x0))), (1, .inr (.inr (x1))), (2, .inl (x2)), (3, .inl (x3)), (4, .inl (x4))], [], hp r2.2, 0, 0)
    refine T_loc (ls' := []) [] rfl ?_
    exact s_X1_serveWrite_108  r2.2
  · refine T_go (S' := (86, [(0, .inr (.inr (x0))), (1, .inr (.inr (x1))), (2, .inl (x2)), (3, .inl (x3)), (4, .inl (x4))], [.inl (x4), .inl (x2), .inr (.inr (x1))], hp σ, 0, 0)) 3 rfl ?_
    refine T_cv (i := iU) (as := [.inr (.inr (x1)), .inl (x2), .inl (x4)]) (rest := []) (st := [.inl (x4), .inl (x2), .inr (.inr (x1))]) rfl rfl rfl ⟨lb rfl, lb rfl, lb rfl, lb rfl⟩ (fun _ h => Ew_le (lb rfl) (s_X2_waitForAnswers x1 x2 x4 σ _ h)) (fun _ r3 => ?_)
    show Snd false none _ _ _ (cN iU) (89, [(0, .inr (.inr (x0))), (1, .inr (.inr (x1))), (2, .inl (x2)), (3, .inl (x3)), (4, .inl (x4))], [], hp r3.2, 0, 0)
    refine T_go (S' := (108, [(0, .inr (.inr (x0))), (1, .inr (.inr (x1))), (2, .inl (x2)), (3, .inl (x3)), (4, .inl (x4))], [], hp r3.2, 0, 0)) 1 rfl ?_
    refine T_loc (ls' := []) [] rfl ?_
    exact s_X1_serveWrite_108  r3.2
def f_X1_serveWrite_L35 : Nat → (Nat × Nat × Int32 × Int32 × Int32 × Int32 ⊕ (Nat × Nat × Int32 × Int32 × Int32 × Int32)) → eMem → Option (Unit × eMem)
  | 0, _, _ => none
  | n + 1, .inl (x0, x1, x2, x3, x4, x5), σ =>
    if (4 : Int32) ≤ x5 then
      f_X1_serveWrite_77 x0 x1 x2 x3 x4 σ
    else
      if x5 = x3 then
        f_X1_serveWrite_L35 n (.inr ((x0, x1, x2, x3, x4, x5))) σ
      else
        if (KH x1).1 = 2 then
          if ¬ (((σ.1 x1 2) >>> (x5 &&& 31)) &&& (1 : Int32)) = (1 : Int32) then
            f_X1_serveWrite_L35 n (.inr ((x0, x1, x2, x3, x4, x5))) σ
          else
            if (KH x0).1 = 1 then
              Option.bind (f_X1_forward x0 (3 : Int32) x5 x2 σ) (fun r1 =>
                f_X1_serveWrite_L35 n (.inr ((x0, x1, x2, x3, (x4 + (1 : Int32)), x5))) r1.2
                )
            else none
        else none
  | n + 1, .inr ((x0, x1, x2, x3, x4, x5)), σ =>
    f_X1_serveWrite_L35 n (.inl (x0, x1, x2, x3, x4, (x5 + (1 : Int32)))) σ
set_option maxHeartbeats 4000000 in
set_option maxRecDepth 20000 in
theorem s_X1_serveWrite_L35 : ∀ (n : Nat), (∀ (x0 : Nat) (x1 : Nat) (x2 : Int32) (x3 : Int32) (x4 : Int32) (x5 : Int32) (σ : eMem), Snd false none 2 m_X1_serveWrite (f_X1_serveWrite_L35 n (.inl (x0, x1, x2, x3, x4, x5)) σ) (cN iU) (35, [(0, .inr (.inr (x0))), (1, .inr (.inr (x1))), (2, .inl (x2)), (3, .inl (x3)), (4, .inl (x4)), (5, .inl (x5))], [], hp σ, 0, 0)) ∧ (∀ (x0 : Nat) (x1 : Nat) (x2 : Int32) (x3 : Int32) (x4 : Int32) (x5 : Int32) (σ : eMem), Snd false none 2 m_X1_serveWrite (f_X1_serveWrite_L35 n (.inr ((x0, x1, x2, x3, x4, x5))) σ) (cN iU) (71, [(0, .inr (.inr (x0))), (1, .inr (.inr (x1))), (2, .inl (x2)), (3, .inl (x3)), (4, .inl (x4)), (5, .inl (x5))], [], hp σ, 0, 0)) := by
  intro n
  induction n with
  | zero => exact ⟨fun _ _ _ _ _ _ _ => T_none, fun _ _ _ _ _ _ _ => T_none⟩
  | succ n ih =>
    refine ⟨?_, ?_⟩
    · intro x0 x1 x2 x3 x4 x5 σ
      unfold f_X1_serveWrite_L35
      refine T_go (S' := (38, [(0, .inr (.inr (x0))), (1, .inr (.inr (x1))), (2, .inl (x2)), (3, .inl (x3)), (4, .inl (x4)), (5, .inl (x5))], [.inl ((4 : Int32)), .inl (x5)], hp σ, 0, 0)) 2 rfl ?_
      refine T_icmp_ge 77 rfl rfl (fun _ => ?_) (fun _ => ?_)
      · refine T_loc (ls' := [(0, .inr (.inr (x0))), (1, .inr (.inr (x1))), (2, .inl (x2)), (3, .inl (x3)), (4, .inl (x4))]) [0, 1, 2, 3, 4] rfl ?_
        exact s_X1_serveWrite_77 x0 x1 x2 x3 x4 σ
      · refine T_go (S' := (44, [(0, .inr (.inr (x0))), (1, .inr (.inr (x1))), (2, .inl (x2)), (3, .inl (x3)), (4, .inl (x4)), (5, .inl (x5))], [.inl (x3), .inl (x5)], hp σ, 0, 0)) 2 rfl ?_
        refine T_icmp_eq 71 rfl rfl (fun _ => ?_) (fun _ => ?_)
        · refine T_loc (ls' := [(0, .inr (.inr (x0))), (1, .inr (.inr (x1))), (2, .inl (x2)), (3, .inl (x3)), (4, .inl (x4)), (5, .inl (x5))]) [0, 1, 2, 3, 4, 5] rfl ?_
          exact (ih.2) x0 x1 x2 x3 x4 x5 σ
        · refine T_go (S' := (48, [(0, .inr (.inr (x0))), (1, .inr (.inr (x1))), (2, .inl (x2)), (3, .inl (x3)), (4, .inl (x4)), (5, .inl (x5))], [.inr (.inr (x1))], hp σ, 0, 0)) 1 rfl ?_
          refine T_getI rfl (fun _ => ?_)
          refine T_go (S' := (57, [(0, .inr (.inr (x0))), (1, .inr (.inr (x1))), (2, .inl (x2)), (3, .inl (x3)), (4, .inl (x4)), (5, .inl (x5))], [.inl ((1 : Int32)), .inl ((((σ.1 x1 2) >>> (x5 &&& 31)) &&& (1 : Int32)))], hp σ, 0, 0)) 5 rfl ?_
          refine T_icmp_ne 71 rfl rfl (fun _ => ?_) (fun _ => ?_)
          · refine T_loc (ls' := [(0, .inr (.inr (x0))), (1, .inr (.inr (x1))), (2, .inl (x2)), (3, .inl (x3)), (4, .inl (x4)), (5, .inl (x5))]) [0, 1, 2, 3, 4, 5] rfl ?_
            exact (ih.2) x0 x1 x2 x3 x4 x5 σ
          · refine T_go (S' := (65, [(0, .inr (.inr (x0))), (1, .inr (.inr (x1))), (2, .inl (x2)), (3, .inl (x3)), (4, .inl (x4)), (5, .inl (x5))], [.inl (x2), .inl (x5), .inl ((3 : Int32)), .inr (.inr (x0))], hp σ, 0, 0)) 4 rfl ?_
            refine T_cv (i := iU) (as := [.inr (.inr (x0)), .inl ((3 : Int32)), .inl (x5), .inl (x2)]) (rest := []) (st := [.inl (x2), .inl (x5), .inl ((3 : Int32)), .inr (.inr (x0))]) rfl rfl rfl ⟨lb rfl, lb rfl, lb rfl, lb rfl⟩ (fun _ h => Ew_le (lb rfl) (s_X1_forward x0 (3 : Int32) x5 x2 σ _ h)) (fun _ r1 => ?_)
            show Snd false none _ _ _ (cN iU) (68, [(0, .inr (.inr (x0))), (1, .inr (.inr (x1))), (2, .inl (x2)), (3, .inl (x3)), (4, .inl (x4)), (5, .inl (x5))], [], hp r1.2, 0, 0)
            refine T_go (S' := (71, [(4, .inl ((x4 + (1 : Int32)))), (0, .inr (.inr (x0))), (1, .inr (.inr (x1))), (2, .inl (x2)), (3, .inl (x3)), (5, .inl (x5))], [], hp r1.2, 0, 0)) 1 rfl ?_
            refine T_loc (ls' := [(0, .inr (.inr (x0))), (1, .inr (.inr (x1))), (2, .inl (x2)), (3, .inl (x3)), (4, .inl ((x4 + (1 : Int32)))), (5, .inl (x5))]) [1, 2, 3, 4, 0, 5] rfl ?_
            exact (ih.2) x0 x1 x2 x3 (x4 + (1 : Int32)) x5 r1.2
    · intro x0 x1 x2 x3 x4 x5 σ
      unfold f_X1_serveWrite_L35
      refine T_go (S' := (35, [(5, .inl ((x5 + (1 : Int32)))), (0, .inr (.inr (x0))), (1, .inr (.inr (x1))), (2, .inl (x2)), (3, .inl (x3)), (4, .inl (x4))], [], hp σ, 0, 0)) 2 rfl ?_
      refine T_loc (ls' := [(0, .inr (.inr (x0))), (1, .inr (.inr (x1))), (2, .inl (x2)), (3, .inl (x3)), (4, .inl (x4)), (5, .inl ((x5 + (1 : Int32))))]) [1, 2, 3, 4, 5, 0] rfl ?_
      exact (ih.1) x0 x1 x2 x3 x4 (x5 + (1 : Int32)) σ
def f_X1_serveWrite (x0 : Nat) (x1 : Nat) (x2 : Int32) (σ : eMem) : Option (Unit × eMem) :=
  Option.bind (f_X4_coreOf x2 σ) (fun r1 =>
    if (KH x1).1 = 2 then
      Option.bind (f_X2_hasOtherOwner x1 r1.1 r1.2) (fun r2 =>
        if r2.1 = (0 : Int32) then
          f_X1_serveWrite_L35 1000000 (.inl (x0, x1, x2, r1.1, (0 : Int32), (0 : Int32))) r2.2
        else
          if (KH x1).1 = 2 then
            if (KH x0).1 = 1 then
              Option.bind (f_X1_forward x0 (5 : Int32) (r2.2.1 x1 1) x2 r2.2) (fun r3 =>
                f_X1_serveWrite_77 x0 x1 x2 r1.1 (1 : Int32) r3.2
                )
            else none
          else none
        )
    else none
    )
set_option maxHeartbeats 4000000 in
set_option maxRecDepth 20000 in
theorem s_X1_serveWrite (x0 : Nat) (x1 : Nat) (x2 : Int32) (σ : eMem) : ∀ r, f_X1_serveWrite x0 x1 x2 σ = some r → Ew false 3 28 [.inr (.inr (x0)), .inr (.inr (x1)), .inl (x2)] (hp σ) (cN iU r) := by
  refine T_meth (md := m_X1_serveWrite) (d0 := 2) (cv := (cN iU)) rfl (lb rfl) (lb rfl) ?_
  unfold f_X1_serveWrite
  show Snd false none _ _ _ _ (0, [(0, .inr (.inr (x0))), (1, .inr (.inr (x1))), (2, .inl (x2))], [], hp σ, 0, 0)
  refine T_go (S' := (1, [(0, .inr (.inr (x0))), (1, .inr (.inr (x1))), (2, .inl (x2))], [.inl (x2)], hp σ, 0, 0)) 1 rfl ?_
  refine T_cs (i := iI) (as := [.inl (x2)]) (rest := []) (st := [.inl (x2)]) rfl (lb rfl) rfl rfl ⟨lb rfl, lb rfl, lb rfl, lb rfl⟩ (fun _ h => Ew_le (lb rfl) (s_X4_coreOf x2 σ _ h)) (fun r1 => ?_)
  show Snd false none _ _ _ (cN iU) (4, [(0, .inr (.inr (x0))), (1, .inr (.inr (x1))), (2, .inl (x2))], [.inl (r1.1)], hp r1.2, 0, 0)
  refine T_go (S' := (10, [(4, .inl ((0 : Int32))), (3, .inl (r1.1)), (0, .inr (.inr (x0))), (1, .inr (.inr (x1))), (2, .inl (x2))], [.inl (r1.1), .inr (.inr (x1))], hp r1.2, 0, 0)) 5 rfl ?_
  refine T_cv (i := iI) (as := [.inr (.inr (x1)), .inl (r1.1)]) (rest := []) (st := [.inl (r1.1), .inr (.inr (x1))]) rfl rfl rfl ⟨lb rfl, lb rfl, lb rfl, lb rfl⟩ (fun _ h => Ew_le (lb rfl) (s_X2_hasOtherOwner x1 r1.1 r1.2 _ h)) (fun _ r2 => ?_)
  show Snd false none _ _ _ (cN iU) (13, [(4, .inl ((0 : Int32))), (3, .inl (r1.1)), (0, .inr (.inr (x0))), (1, .inr (.inr (x1))), (2, .inl (x2))], [.inl (r2.1)], hp r2.2, 0, 0)
  refine T_if_eq 32 rfl rfl (fun _ => ?_) (fun _ => ?_)
  · refine T_go (S' := (35, [(5, .inl ((0 : Int32))), (4, .inl ((0 : Int32))), (3, .inl (r1.1)), (0, .inr (.inr (x0))), (1, .inr (.inr (x1))), (2, .inl (x2))], [], hp r2.2, 0, 0)) 2 rfl ?_
    refine T_loc (ls' := [(0, .inr (.inr (x0))), (1, .inr (.inr (x1))), (2, .inl (x2)), (3, .inl (r1.1)), (4, .inl ((0 : Int32))), (5, .inl ((0 : Int32)))]) [3, 4, 5, 2, 1, 0] rfl ?_
    exact (s_X1_serveWrite_L35 1000000).1 x0 x1 x2 r1.1 (0 : Int32) (0 : Int32) r2.2
  · refine T_go (S' := (19, [(4, .inl ((0 : Int32))), (3, .inl (r1.1)), (0, .inr (.inr (x0))), (1, .inr (.inr (x1))), (2, .inl (x2))], [.inr (.inr (x1)), .inl ((5 : Int32)), .inr (.inr (x0))], hp r2.2, 0, 0)) 3 rfl ?_
    refine T_getI rfl (fun _ => ?_)
    refine T_go (S' := (23, [(4, .inl ((0 : Int32))), (3, .inl (r1.1)), (0, .inr (.inr (x0))), (1, .inr (.inr (x1))), (2, .inl (x2))], [.inl (x2), .inl ((r2.2.1 x1 1)), .inl ((5 : Int32)), .inr (.inr (x0))], hp r2.2, 0, 0)) 1 rfl ?_
    refine T_cv (i := iU) (as := [.inr (.inr (x0)), .inl ((5 : Int32)), .inl ((r2.2.1 x1 1)), .inl (x2)]) (rest := []) (st := [.inl (x2), .inl ((r2.2.1 x1 1)), .inl ((5 : Int32)), .inr (.inr (x0))]) rfl rfl rfl ⟨lb rfl, lb rfl, lb rfl, lb rfl⟩ (fun _ h => Ew_le (lb rfl) (s_X1_forward x0 (5 : Int32) (r2.2.1 x1 1) x2 r2.2 _ h)) (fun _ r3 => ?_)
    show Snd false none _ _ _ (cN iU) (26, [(4, .inl ((0 : Int32))), (3, .inl (r1.1)), (0, .inr (.inr (x0))), (1, .inr (.inr (x1))), (2, .inl (x2))], [], hp r3.2, 0, 0)
    refine T_go (S' := (77, [(4, .inl ((1 : Int32))), (3, .inl (r1.1)), (0, .inr (.inr (x0))), (1, .inr (.inr (x1))), (2, .inl (x2))], [], hp r3.2, 0, 0)) 3 rfl ?_
    refine T_loc (ls' := [(0, .inr (.inr (x0))), (1, .inr (.inr (x1))), (2, .inl (x2)), (3, .inl (r1.1)), (4, .inl ((1 : Int32)))]) [2, 3, 4, 1, 0] rfl ?_
    exact s_X1_serveWrite_77 x0 x1 x2 r1.1 (1 : Int32) r3.2
def f_X1_servePut_24 (x0 : Nat) (x2 : Int32) (σ : eMem) : Option (Unit × eMem) :=
  if (KH x0).1 = 1 then
    Option.bind (f_X1_answer x0 (9 : Int32) x2 (-1 : Int32) σ) (fun r1 =>
      some ((), r1.2)
      )
  else none
set_option maxHeartbeats 4000000 in
set_option maxRecDepth 20000 in
theorem s_X1_servePut_24 (x0 : Nat) (x2 : Int32) (σ : eMem) : Snd false none 2 m_X1_servePut (f_X1_servePut_24 x0 x2 σ) (cN iU) (24, [(0, .inr (.inr (x0))), (2, .inl (x2))], [], hp σ, 0, 0) := by
  unfold f_X1_servePut_24
  refine T_go (S' := (29, [(0, .inr (.inr (x0))), (2, .inl (x2))], [.inl ((-1 : Int32)), .inl (x2), .inl ((9 : Int32)), .inr (.inr (x0))], hp σ, 0, 0)) 4 rfl ?_
  refine T_cv (i := iU) (as := [.inr (.inr (x0)), .inl ((9 : Int32)), .inl (x2), .inl ((-1 : Int32))]) (rest := []) (st := [.inl ((-1 : Int32)), .inl (x2), .inl ((9 : Int32)), .inr (.inr (x0))]) rfl rfl rfl ⟨lb rfl, lb rfl, lb rfl, lb rfl⟩ (fun _ h => Ew_le (lb rfl) (s_X1_answer x0 (9 : Int32) x2 (-1 : Int32) σ _ h)) (fun _ r1 => ?_)
  show Snd false none _ _ _ (cN iU) (32, [(0, .inr (.inr (x0))), (2, .inl (x2))], [], hp r1.2, 0, 0)
  exact T_ret rfl
def f_X1_servePut (x0 : Nat) (x1 : Nat) (x2 : Int32) (σ : eMem) : Option (Unit × eMem) :=
  if (KH x1).1 = 2 then
    Option.bind (f_X4_coreOf x2 σ) (fun r1 =>
      if ¬ (σ.1 x1 1) = r1.1 then
        f_X1_servePut_24 x0 x2 r1.2
      else
        Option.bind (f_X4_valueOf x2 r1.2) (fun r2 =>
          if (KH x1).1 = 2 then eLet ((eup r2.2.1 x1 0 r2.1, r2.2.2) : eMem) (fun σ3 =>
            if (KH x1).1 = 2 then eLet ((eup σ3.1 x1 1 (-1 : Int32), σ3.2) : eMem) (fun σ4 =>
              f_X1_servePut_24 x0 x2 σ4
              ) else none
            ) else none
          )
      )
  else none
set_option maxHeartbeats 4000000 in
set_option maxRecDepth 20000 in
theorem s_X1_servePut (x0 : Nat) (x1 : Nat) (x2 : Int32) (σ : eMem) : ∀ r, f_X1_servePut x0 x1 x2 σ = some r → Ew false 3 29 [.inr (.inr (x0)), .inr (.inr (x1)), .inl (x2)] (hp σ) (cN iU r) := by
  refine T_meth (md := m_X1_servePut) (d0 := 2) (cv := (cN iU)) rfl (lb rfl) (lb rfl) ?_
  unfold f_X1_servePut
  show Snd false none _ _ _ _ (0, [(0, .inr (.inr (x0))), (1, .inr (.inr (x1))), (2, .inl (x2))], [], hp σ, 0, 0)
  refine T_go (S' := (1, [(0, .inr (.inr (x0))), (1, .inr (.inr (x1))), (2, .inl (x2))], [.inr (.inr (x1))], hp σ, 0, 0)) 1 rfl ?_
  refine T_getI rfl (fun _ => ?_)
  refine T_go (S' := (5, [(0, .inr (.inr (x0))), (1, .inr (.inr (x1))), (2, .inl (x2))], [.inl (x2), .inl ((σ.1 x1 1))], hp σ, 0, 0)) 1 rfl ?_
  refine T_cs (i := iI) (as := [.inl (x2)]) (rest := [.inl ((σ.1 x1 1))]) (st := [.inl (x2), .inl ((σ.1 x1 1))]) rfl (lb rfl) rfl rfl ⟨lb rfl, lb rfl, lb rfl, lb rfl⟩ (fun _ h => Ew_le (lb rfl) (s_X4_coreOf x2 σ _ h)) (fun r1 => ?_)
  show Snd false none _ _ _ (cN iU) (8, [(0, .inr (.inr (x0))), (1, .inr (.inr (x1))), (2, .inl (x2))], [.inl (r1.1), .inl ((σ.1 x1 1))], hp r1.2, 0, 0)
  refine T_icmp_ne 24 rfl rfl (fun _ => ?_) (fun _ => ?_)
  · refine T_loc (ls' := [(0, .inr (.inr (x0))), (2, .inl (x2))]) [0, 2] rfl ?_
    exact s_X1_servePut_24 x0 x2 r1.2
  · refine T_go (S' := (13, [(0, .inr (.inr (x0))), (1, .inr (.inr (x1))), (2, .inl (x2))], [.inl (x2), .inr (.inr (x1))], hp r1.2, 0, 0)) 2 rfl ?_
    refine T_cs (i := iI) (as := [.inl (x2)]) (rest := [.inr (.inr (x1))]) (st := [.inl (x2), .inr (.inr (x1))]) rfl (lb rfl) rfl rfl ⟨lb rfl, lb rfl, lb rfl, lb rfl⟩ (fun _ h => Ew_le (lb rfl) (s_X4_valueOf x2 r1.2 _ h)) (fun r2 => ?_)
    show Snd false none _ _ _ (cN iU) (16, [(0, .inr (.inr (x0))), (1, .inr (.inr (x1))), (2, .inl (x2))], [.inl (r2.1), .inr (.inr (x1))], hp r2.2, 0, 0)
    refine T_putI rfl (fun _ => ?_)
    refine T_let (Sf := fun σ3 => (19, [(0, .inr (.inr (x0))), (1, .inr (.inr (x1))), (2, .inl (x2))], [], hp σ3, 0, 0)) (fun σ3 => ?_)
    refine T_go (S' := (21, [(0, .inr (.inr (x0))), (1, .inr (.inr (x1))), (2, .inl (x2))], [.inl ((-1 : Int32)), .inr (.inr (x1))], hp σ3, 0, 0)) 2 rfl ?_
    refine T_putI rfl (fun _ => ?_)
    refine T_let (Sf := fun σ4 => (24, [(0, .inr (.inr (x0))), (1, .inr (.inr (x1))), (2, .inl (x2))], [], hp σ4, 0, 0)) (fun σ4 => ?_)
    refine T_loc (ls' := [(0, .inr (.inr (x0))), (2, .inl (x2))]) [0, 2] rfl ?_
    exact s_X1_servePut_24 x0 x2 σ4
def f_X1_serve_56  (σ : eMem) : Option (Unit × eMem) :=
  some ((), σ)
set_option maxHeartbeats 4000000 in
set_option maxRecDepth 20000 in
theorem s_X1_serve_56  (σ : eMem) : Snd false none 3 m_X1_serve (f_X1_serve_56 σ) (cN iU) (56, [], [], hp σ, 0, 0) := by
  unfold f_X1_serve_56
  exact T_ret rfl
def f_X1_serve (x0 : Nat) (x1 : Nat) (x2 : Int32) (σ : eMem) : Option (Unit × eMem) :=
  Option.bind (f_X4_kindOf x2 σ) (fun r1 =>
    if r1.1 = (0 : Int32) then
      if (KH x0).1 = 1 then
        Option.bind (f_X1_serveRead x0 x1 x2 r1.2) (fun r2 =>
          f_X1_serve_56  r2.2
          )
      else none
    else
      if r1.1 = (1 : Int32) then
        if (KH x0).1 = 1 then
          Option.bind (f_X1_serveWrite x0 x1 x2 r1.2) (fun r3 =>
            f_X1_serve_56  r3.2
            )
        else none
      else
        if (KH x0).1 = 1 then
          Option.bind (f_X1_servePut x0 x1 x2 r1.2) (fun r4 =>
            f_X1_serve_56  r4.2
            )
        else none
    )
set_option maxHeartbeats 4000000 in
set_option maxRecDepth 20000 in
theorem s_X1_serve (x0 : Nat) (x1 : Nat) (x2 : Int32) (σ : eMem) : ∀ r, f_X1_serve x0 x1 x2 σ = some r → Ew false 4 26 [.inr (.inr (x0)), .inr (.inr (x1)), .inl (x2)] (hp σ) (cN iU r) := by
  refine T_meth (md := m_X1_serve) (d0 := 3) (cv := (cN iU)) rfl (lb rfl) (lb rfl) ?_
  unfold f_X1_serve
  show Snd false none _ _ _ _ (0, [(0, .inr (.inr (x0))), (1, .inr (.inr (x1))), (2, .inl (x2))], [], hp σ, 0, 0)
  refine T_go (S' := (1, [(0, .inr (.inr (x0))), (1, .inr (.inr (x1))), (2, .inl (x2))], [.inl (x2)], hp σ, 0, 0)) 1 rfl ?_
  refine T_cs (i := iI) (as := [.inl (x2)]) (rest := []) (st := [.inl (x2)]) rfl (lb rfl) rfl rfl ⟨lb rfl, lb rfl, lb rfl, lb rfl⟩ (fun _ h => Ew_le (lb rfl) (s_X4_kindOf x2 σ _ h)) (fun r1 => ?_)
  show Snd false none _ _ _ (cN iU) (4, [(0, .inr (.inr (x0))), (1, .inr (.inr (x1))), (2, .inl (x2))], [.inl (r1.1)], hp r1.2, 0, 0)
  refine T_sw (0 : Int32) rfl (fun _ => ?_) (fun q0 => ?_)
  · refine T_go (S' := (35, [(0, .inr (.inr (x0))), (1, .inr (.inr (x1))), (2, .inl (x2))], [.inl (x2), .inr (.inr (x1)), .inr (.inr (x0))], hp r1.2, 0, 0)) 3 rfl ?_
    refine T_cv (i := iU) (as := [.inr (.inr (x0)), .inr (.inr (x1)), .inl (x2)]) (rest := []) (st := [.inl (x2), .inr (.inr (x1)), .inr (.inr (x0))]) rfl rfl rfl ⟨lb rfl, lb rfl, lb rfl, lb rfl⟩ (fun _ h => Ew_le (lb rfl) (s_X1_serveRead x0 x1 x2 r1.2 _ h)) (fun _ r2 => ?_)
    show Snd false none _ _ _ (cN iU) (38, [(0, .inr (.inr (x0))), (1, .inr (.inr (x1))), (2, .inl (x2))], [], hp r2.2, 0, 0)
    refine T_go (S' := (56, [(0, .inr (.inr (x0))), (1, .inr (.inr (x1))), (2, .inl (x2))], [], hp r2.2, 0, 0)) 1 rfl ?_
    refine T_loc (ls' := []) [] rfl ?_
    exact s_X1_serve_56  r2.2
  refine T_sw (1 : Int32) rfl (fun _ => ?_) (fun q1 => ?_)
  · refine T_go (S' := (44, [(0, .inr (.inr (x0))), (1, .inr (.inr (x1))), (2, .inl (x2))], [.inl (x2), .inr (.inr (x1)), .inr (.inr (x0))], hp r1.2, 0, 0)) 3 rfl ?_
    refine T_cv (i := iU) (as := [.inr (.inr (x0)), .inr (.inr (x1)), .inl (x2)]) (rest := []) (st := [.inl (x2), .inr (.inr (x1)), .inr (.inr (x0))]) rfl rfl rfl ⟨lb rfl, lb rfl, lb rfl, lb rfl⟩ (fun _ h => Ew_le (lb rfl) (s_X1_serveWrite x0 x1 x2 r1.2 _ h)) (fun _ r3 => ?_)
    show Snd false none _ _ _ (cN iU) (47, [(0, .inr (.inr (x0))), (1, .inr (.inr (x1))), (2, .inl (x2))], [], hp r3.2, 0, 0)
    refine T_go (S' := (56, [(0, .inr (.inr (x0))), (1, .inr (.inr (x1))), (2, .inl (x2))], [], hp r3.2, 0, 0)) 1 rfl ?_
    refine T_loc (ls' := []) [] rfl ?_
    exact s_X1_serve_56  r3.2
  refine T_lso 50 rfl ?_ rfl ?_
  · exact (e_osw (e_i32 (k := 0) q0 (by decide)) (e_osw (e_i32 (k := 1) q1 (by decide)) rfl))
  refine T_go (S' := (53, [(0, .inr (.inr (x0))), (1, .inr (.inr (x1))), (2, .inl (x2))], [.inl (x2), .inr (.inr (x1)), .inr (.inr (x0))], hp r1.2, 0, 0)) 3 rfl ?_
  refine T_cv (i := iU) (as := [.inr (.inr (x0)), .inr (.inr (x1)), .inl (x2)]) (rest := []) (st := [.inl (x2), .inr (.inr (x1)), .inr (.inr (x0))]) rfl rfl rfl ⟨lb rfl, lb rfl, lb rfl, lb rfl⟩ (fun _ h => Ew_le (lb rfl) (s_X1_servePut x0 x1 x2 r1.2 _ h)) (fun _ r4 => ?_)
  show Snd false none _ _ _ (cN iU) (56, [(0, .inr (.inr (x0))), (1, .inr (.inr (x1))), (2, .inl (x2))], [], hp r4.2, 0, 0)
  refine T_loc (ls' := []) [] rfl ?_
  exact s_X1_serve_56  r4.2
def f_X2_putInRow_32  (σ : eMem) : Option (Unit × eMem) :=
  some ((), σ)
set_option maxHeartbeats 4000000 in
set_option maxRecDepth 20000 in
theorem s_X2_putInRow_32  (σ : eMem) : Snd false none 0 m_X2_putInRow (f_X2_putInRow_32 σ) (cN iU) (32, [], [], hp σ, 0, 0) := by
  unfold f_X2_putInRow_32
  exact T_ret rfl
def f_X2_putInRow (x0 : Nat) (x1 : Int32) (σ : eMem) : Option (Unit × eMem) :=
  if (KH x0).1 = 2 then
    if (KH x0).1 = 2 then
      if 11 ≤ (KH (RH x0 6)).1 ∧ (KH (RH x0 6)).1 < 18 then
        if (Int32.ofNat (KH (RH x0 6)).2) ≤ (σ.1 x0 7) then
          f_X2_putInRow_32  σ
        else
          if (KH x0).1 = 2 then
            if (KH x0).1 = 2 then
              if (KH (RH x0 6)).1 = 11 ∧ eix (σ.1 x0 7) (KH (RH x0 6)).2 = true then eLet ((eup σ.1 (RH x0 6) (σ.1 x0 7).toNatClampNeg x1, σ.2) : eMem) (fun σ1 =>
                if (KH x0).1 = 2 then
                  if (KH x0).1 = 2 then eLet ((eup σ1.1 x0 7 ((σ1.1 x0 7) + (1 : Int32)), σ1.2) : eMem) (fun σ2 =>
                    f_X2_putInRow_32  σ2
                    ) else none
                else none
                ) else none
            else none
          else none
      else none
    else none
  else none
set_option maxHeartbeats 4000000 in
set_option maxRecDepth 20000 in
theorem s_X2_putInRow (x0 : Nat) (x1 : Int32) (σ : eMem) : ∀ r, f_X2_putInRow x0 x1 σ = some r → Ew false 1 38 [.inr (.inr (x0)), .inl (x1)] (hp σ) (cN iU r) := by
  refine T_meth (md := m_X2_putInRow) (d0 := 0) (cv := (cN iU)) rfl (lb rfl) (lb rfl) ?_
  unfold f_X2_putInRow
  show Snd false none _ _ _ _ (0, [(0, .inr (.inr (x0))), (1, .inl (x1))], [], hp σ, 0, 0)
  refine T_go (S' := (1, [(0, .inr (.inr (x0))), (1, .inl (x1))], [.inr (.inr (x0))], hp σ, 0, 0)) 1 rfl ?_
  refine T_getI rfl (fun _ => ?_)
  refine T_go (S' := (5, [(0, .inr (.inr (x0))), (1, .inl (x1))], [.inr (.inr (x0)), .inl ((σ.1 x0 7))], hp σ, 0, 0)) 1 rfl ?_
  refine T_getR rfl (fun _ => ?_)
  refine T_alen rfl (fun _ => ?_)
  refine T_icmp_ge 32 rfl rfl (fun _ => ?_) (fun _ => ?_)
  · refine T_loc (ls' := []) [] rfl ?_
    exact s_X2_putInRow_32  σ
  · refine T_go (S' := (13, [(0, .inr (.inr (x0))), (1, .inl (x1))], [.inr (.inr (x0))], hp σ, 0, 0)) 1 rfl ?_
    refine T_getR rfl (fun _ => ?_)
    refine T_go (S' := (17, [(0, .inr (.inr (x0))), (1, .inl (x1))], [.inr (.inr (x0)), .inr (.inr ((RH x0 6)))], hp σ, 0, 0)) 1 rfl ?_
    refine T_getI rfl (fun _ => ?_)
    refine T_go (S' := (21, [(0, .inr (.inr (x0))), (1, .inl (x1))], [.inl (x1), .inl ((σ.1 x0 7)), .inr (.inr ((RH x0 6)))], hp σ, 0, 0)) 1 rfl ?_
    refine T_iast rfl (fun _ => ?_)
    refine T_let (Sf := fun σ1 => (22, [(0, .inr (.inr (x0))), (1, .inl (x1))], [], hp σ1, 0, 0)) (fun σ1 => ?_)
    refine T_go (S' := (24, [(0, .inr (.inr (x0))), (1, .inl (x1))], [.inr (.inr (x0)), .inr (.inr (x0))], hp σ1, 0, 0)) 2 rfl ?_
    refine T_getI rfl (fun _ => ?_)
    refine T_go (S' := (29, [(0, .inr (.inr (x0))), (1, .inl (x1))], [.inl (((σ1.1 x0 7) + (1 : Int32))), .inr (.inr (x0))], hp σ1, 0, 0)) 2 rfl ?_
    refine T_putI rfl (fun _ => ?_)
    refine T_let (Sf := fun σ2 => (32, [(0, .inr (.inr (x0))), (1, .inl (x1))], [], hp σ2, 0, 0)) (fun σ2 => ?_)
    refine T_loc (ls' := []) [] rfl ?_
    exact s_X2_putInRow_32  σ2
def f_X1_receiveRequest_31  (σ : eMem) : Option (Unit × eMem) :=
  some ((), σ)
set_option maxHeartbeats 4000000 in
set_option maxRecDepth 20000 in
theorem s_X1_receiveRequest_31  (σ : eMem) : Snd false none 4 m_X1_receiveRequest (f_X1_receiveRequest_31 σ) (cN iU) (31, [], [], hp σ, 0, 0) := by
  unfold f_X1_receiveRequest_31
  exact T_ret rfl
def f_X1_receiveRequest (x0 : Nat) (x1 : Int32) (σ : eMem) : Option (Unit × eMem) :=
  if (KH x0).1 = 1 then
    Option.bind (f_X4_lineOf x1 σ) (fun r1 =>
      if (KH (RH x0 0)).1 = 15 ∧ eix r1.1 (KH (RH x0 0)).2 = true then
        eLet ((RH (RH x0 0) r1.1.toNatClampNeg) : Nat) (fun v2 =>
          if (KH v2).1 = 2 then
            if (r1.2.1 v2 3) = (0 : Int32) then
              if (KH x0).1 = 1 then
                Option.bind (f_X1_serve x0 v2 x1 r1.2) (fun r3 =>
                  f_X1_receiveRequest_31  r3.2
                  )
              else none
            else
              if (KH v2).1 = 2 then
                Option.bind (f_X2_putInRow v2 x1 r1.2) (fun r4 =>
                  f_X1_receiveRequest_31  r4.2
                  )
              else none
          else none
          )
      else none
      )
  else none
set_option maxHeartbeats 4000000 in
set_option maxRecDepth 20000 in
theorem s_X1_receiveRequest (x0 : Nat) (x1 : Int32) (σ : eMem) : ∀ r, f_X1_receiveRequest x0 x1 σ = some r → Ew false 5 24 [.inr (.inr (x0)), .inl (x1)] (hp σ) (cN iU r) := by
  refine T_meth (md := m_X1_receiveRequest) (d0 := 4) (cv := (cN iU)) rfl (lb rfl) (lb rfl) ?_
  unfold f_X1_receiveRequest
  show Snd false none _ _ _ _ (0, [(0, .inr (.inr (x0))), (1, .inl (x1))], [], hp σ, 0, 0)
  refine T_go (S' := (1, [(0, .inr (.inr (x0))), (1, .inl (x1))], [.inr (.inr (x0))], hp σ, 0, 0)) 1 rfl ?_
  refine T_getR rfl (fun _ => ?_)
  refine T_go (S' := (5, [(0, .inr (.inr (x0))), (1, .inl (x1))], [.inl (x1), .inr (.inr ((RH x0 0)))], hp σ, 0, 0)) 1 rfl ?_
  refine T_cs (i := iI) (as := [.inl (x1)]) (rest := [.inr (.inr ((RH x0 0)))]) (st := [.inl (x1), .inr (.inr ((RH x0 0)))]) rfl (lb rfl) rfl rfl ⟨lb rfl, lb rfl, lb rfl, lb rfl⟩ (fun _ h => Ew_le (lb rfl) (s_X4_lineOf x1 σ _ h)) (fun r1 => ?_)
  show Snd false none _ _ _ (cN iU) (8, [(0, .inr (.inr (x0))), (1, .inl (x1))], [.inl (r1.1), .inr (.inr ((RH x0 0)))], hp r1.2, 0, 0)
  refine T_aald rfl (fun _ => ?_)
  refine T_go (S' := (10, [(2, .inr (.inr ((RH (RH x0 0) r1.1.toNatClampNeg)))), (0, .inr (.inr (x0))), (1, .inl (x1))], [], hp r1.2, 0, 0)) 1 rfl ?_
  refine T_let (Sf := fun v2 => (10, [(2, .inr (.inr (v2))), (0, .inr (.inr (x0))), (1, .inl (x1))], [], hp r1.2, 0, 0)) (fun v2 => ?_)
  refine T_go (S' := (11, [(2, .inr (.inr (v2))), (0, .inr (.inr (x0))), (1, .inl (x1))], [.inr (.inr (v2))], hp r1.2, 0, 0)) 1 rfl ?_
  refine T_getI rfl (fun _ => ?_)
  refine T_if_eq 25 rfl rfl (fun _ => ?_) (fun _ => ?_)
  · refine T_go (S' := (28, [(2, .inr (.inr (v2))), (0, .inr (.inr (x0))), (1, .inl (x1))], [.inl (x1), .inr (.inr (v2)), .inr (.inr (x0))], hp r1.2, 0, 0)) 3 rfl ?_
    refine T_cv (i := iU) (as := [.inr (.inr (x0)), .inr (.inr (v2)), .inl (x1)]) (rest := []) (st := [.inl (x1), .inr (.inr (v2)), .inr (.inr (x0))]) rfl rfl rfl ⟨lb rfl, lb rfl, lb rfl, lb rfl⟩ (fun _ h => Ew_le (lb rfl) (s_X1_serve x0 v2 x1 r1.2 _ h)) (fun _ r3 => ?_)
    show Snd false none _ _ _ (cN iU) (31, [(2, .inr (.inr (v2))), (0, .inr (.inr (x0))), (1, .inl (x1))], [], hp r3.2, 0, 0)
    refine T_loc (ls' := []) [] rfl ?_
    exact s_X1_receiveRequest_31  r3.2
  · refine T_go (S' := (19, [(2, .inr (.inr (v2))), (0, .inr (.inr (x0))), (1, .inl (x1))], [.inl (x1), .inr (.inr (v2))], hp r1.2, 0, 0)) 2 rfl ?_
    refine T_cv (i := iU) (as := [.inr (.inr (v2)), .inl (x1)]) (rest := []) (st := [.inl (x1), .inr (.inr (v2))]) rfl rfl rfl ⟨lb rfl, lb rfl, lb rfl, lb rfl⟩ (fun _ h => Ew_le (lb rfl) (s_X2_putInRow v2 x1 r1.2 _ h)) (fun _ r4 => ?_)
    show Snd false none _ _ _ (cN iU) (22, [(2, .inr (.inr (v2))), (0, .inr (.inr (x0))), (1, .inl (x1))], [], hp r4.2, 0, 0)
    refine T_go (S' := (31, [(2, .inr (.inr (v2))), (0, .inr (.inr (x0))), (1, .inl (x1))], [], hp r4.2, 0, 0)) 1 rfl ?_
    refine T_loc (ls' := []) [] rfl ?_
    exact s_X1_receiveRequest_31  r4.2
def f_X2_becomeSharedWith_30 (x0 : Nat) (σ : eMem) : Option (Unit × eMem) :=
  if (KH x0).1 = 2 then eLet ((eup σ.1 x0 1 (-1 : Int32), σ.2) : eMem) (fun σ1 =>
    some ((), σ1)
    ) else none
set_option maxHeartbeats 4000000 in
set_option maxRecDepth 20000 in
theorem s_X2_becomeSharedWith_30 (x0 : Nat) (σ : eMem) : Snd false none 0 m_X2_becomeSharedWith (f_X2_becomeSharedWith_30 x0 σ) (cN iU) (30, [(0, .inr (.inr (x0)))], [], hp σ, 0, 0) := by
  unfold f_X2_becomeSharedWith_30
  refine T_go (S' := (32, [(0, .inr (.inr (x0)))], [.inl ((-1 : Int32)), .inr (.inr (x0))], hp σ, 0, 0)) 2 rfl ?_
  refine T_putI rfl (fun _ => ?_)
  refine T_let (Sf := fun σ1 => (35, [(0, .inr (.inr (x0)))], [], hp σ1, 0, 0)) (fun σ1 => ?_)
  exact T_ret rfl
def f_X2_becomeSharedWith (x0 : Nat) (x1 : Int32) (σ : eMem) : Option (Unit × eMem) :=
  if (KH x0).1 = 2 then eLet ((eup σ.1 x0 2 ((1 : Int32) <<< (x1 &&& 31)), σ.2) : eMem) (fun σ1 =>
    if (KH x0).1 = 2 then
      if (σ1.1 x0 1) = (-1 : Int32) then
        f_X2_becomeSharedWith_30 x0 σ1
      else
        if (KH x0).1 = 2 then
          if (KH x0).1 = 2 then
            if (KH x0).1 = 2 then eLet ((eup σ1.1 x0 2 ((σ1.1 x0 2) ||| ((1 : Int32) <<< ((σ1.1 x0 1) &&& 31))), σ1.2) : eMem) (fun σ2 =>
              f_X2_becomeSharedWith_30 x0 σ2
              ) else none
          else none
        else none
    else none
    ) else none
set_option maxHeartbeats 4000000 in
set_option maxRecDepth 20000 in
theorem s_X2_becomeSharedWith (x0 : Nat) (x1 : Int32) (σ : eMem) : ∀ r, f_X2_becomeSharedWith x0 x1 σ = some r → Ew false 1 37 [.inr (.inr (x0)), .inl (x1)] (hp σ) (cN iU r) := by
  refine T_meth (md := m_X2_becomeSharedWith) (d0 := 0) (cv := (cN iU)) rfl (lb rfl) (lb rfl) ?_
  unfold f_X2_becomeSharedWith
  show Snd false none _ _ _ _ (0, [(0, .inr (.inr (x0))), (1, .inl (x1))], [], hp σ, 0, 0)
  refine T_go (S' := (4, [(0, .inr (.inr (x0))), (1, .inl (x1))], [.inl (((1 : Int32) <<< (x1 &&& 31))), .inr (.inr (x0))], hp σ, 0, 0)) 4 rfl ?_
  refine T_putI rfl (fun _ => ?_)
  refine T_let (Sf := fun σ1 => (7, [(0, .inr (.inr (x0))), (1, .inl (x1))], [], hp σ1, 0, 0)) (fun σ1 => ?_)
  refine T_go (S' := (8, [(0, .inr (.inr (x0))), (1, .inl (x1))], [.inr (.inr (x0))], hp σ1, 0, 0)) 1 rfl ?_
  refine T_getI rfl (fun _ => ?_)
  refine T_go (S' := (12, [(0, .inr (.inr (x0))), (1, .inl (x1))], [.inl ((-1 : Int32)), .inl ((σ1.1 x0 1))], hp σ1, 0, 0)) 1 rfl ?_
  refine T_icmp_eq 30 rfl rfl (fun _ => ?_) (fun _ => ?_)
  · refine T_loc (ls' := [(0, .inr (.inr (x0)))]) [0] rfl ?_
    exact s_X2_becomeSharedWith_30 x0 σ1
  · refine T_go (S' := (17, [(0, .inr (.inr (x0))), (1, .inl (x1))], [.inr (.inr (x0)), .inr (.inr (x0))], hp σ1, 0, 0)) 2 rfl ?_
    refine T_getI rfl (fun _ => ?_)
    refine T_go (S' := (22, [(0, .inr (.inr (x0))), (1, .inl (x1))], [.inr (.inr (x0)), .inl ((1 : Int32)), .inl ((σ1.1 x0 2)), .inr (.inr (x0))], hp σ1, 0, 0)) 2 rfl ?_
    refine T_getI rfl (fun _ => ?_)
    refine T_go (S' := (27, [(0, .inr (.inr (x0))), (1, .inl (x1))], [.inl (((σ1.1 x0 2) ||| ((1 : Int32) <<< ((σ1.1 x0 1) &&& 31)))), .inr (.inr (x0))], hp σ1, 0, 0)) 2 rfl ?_
    refine T_putI rfl (fun _ => ?_)
    refine T_let (Sf := fun σ2 => (30, [(0, .inr (.inr (x0))), (1, .inl (x1))], [], hp σ2, 0, 0)) (fun σ2 => ?_)
    refine T_loc (ls' := [(0, .inr (.inr (x0)))]) [0] rfl ?_
    exact s_X2_becomeSharedWith_30 x0 σ2
def f_X1_finish_59  (σ : eMem) : Option (Unit × eMem) :=
  some ((), σ)
set_option maxHeartbeats 4000000 in
set_option maxRecDepth 20000 in
theorem s_X1_finish_59  (σ : eMem) : Snd false none 2 m_X1_finish (f_X1_finish_59 σ) (cN iU) (59, [], [], hp σ, 0, 0) := by
  unfold f_X1_finish_59
  exact T_ret rfl
def f_X1_finish (x0 : Nat) (x1 : Nat) (σ : eMem) : Option (Unit × eMem) :=
  if (KH x1).1 = 2 ∧ eB (0 : Int32) = true then eLet ((eup σ.1 x1 3 (0 : Int32), σ.2) : eMem) (fun σ1 =>
    if (KH x1).1 = 2 then
      eLet ((σ1.1 x1 4) : Int32) (fun v2 =>
        Option.bind (f_X4_kindOf v2 σ1) (fun r3 =>
          if ¬ r3.1 = (1 : Int32) then
            Option.bind (f_X4_coreOf v2 r3.2) (fun r4 =>
              if (KH x1).1 = 2 then
                Option.bind (f_X2_becomeSharedWith x1 r4.1 r4.2) (fun r5 =>
                  if (KH x1).1 = 2 then
                    if (KH x0).1 = 1 then
                      Option.bind (f_X1_answer x0 (6 : Int32) v2 (r5.2.1 x1 0) r5.2) (fun r6 =>
                        f_X1_finish_59  r6.2
                        )
                    else none
                  else none
                  )
              else none
              )
          else
            Option.bind (f_X4_coreOf v2 r3.2) (fun r7 =>
              if (KH x1).1 = 2 then
                Option.bind (f_X2_belongTo x1 r7.1 r7.2) (fun r8 =>
                  if (KH x1).1 = 2 then
                    if (KH x0).1 = 1 then
                      Option.bind (f_X1_answer x0 (8 : Int32) v2 (r8.2.1 x1 0) r8.2) (fun r9 =>
                        f_X1_finish_59  r9.2
                        )
                    else none
                  else none
                  )
              else none
              )
          )
        )
    else none
    ) else none
set_option maxHeartbeats 4000000 in
set_option maxRecDepth 20000 in
theorem s_X1_finish (x0 : Nat) (x1 : Nat) (σ : eMem) : ∀ r, f_X1_finish x0 x1 σ = some r → Ew false 3 30 [.inr (.inr (x0)), .inr (.inr (x1))] (hp σ) (cN iU r) := by
  refine T_meth (md := m_X1_finish) (d0 := 2) (cv := (cN iU)) rfl (lb rfl) (lb rfl) ?_
  unfold f_X1_finish
  show Snd false none _ _ _ _ (0, [(0, .inr (.inr (x0))), (1, .inr (.inr (x1)))], [], hp σ, 0, 0)
  refine T_go (S' := (2, [(0, .inr (.inr (x0))), (1, .inr (.inr (x1)))], [.inl ((0 : Int32)), .inr (.inr (x1))], hp σ, 0, 0)) 2 rfl ?_
  refine T_putZ rfl (fun _ => ?_)
  refine T_let (Sf := fun σ1 => (5, [(0, .inr (.inr (x0))), (1, .inr (.inr (x1)))], [], hp σ1, 0, 0)) (fun σ1 => ?_)
  refine T_go (S' := (6, [(0, .inr (.inr (x0))), (1, .inr (.inr (x1)))], [.inr (.inr (x1))], hp σ1, 0, 0)) 1 rfl ?_
  refine T_getI rfl (fun _ => ?_)
  refine T_go (S' := (10, [(2, .inl ((σ1.1 x1 4))), (0, .inr (.inr (x0))), (1, .inr (.inr (x1)))], [], hp σ1, 0, 0)) 1 rfl ?_
  refine T_let (Sf := fun v2 => (10, [(2, .inl (v2)), (0, .inr (.inr (x0))), (1, .inr (.inr (x1)))], [], hp σ1, 0, 0)) (fun v2 => ?_)
  refine T_go (S' := (11, [(2, .inl (v2)), (0, .inr (.inr (x0))), (1, .inr (.inr (x1)))], [.inl (v2)], hp σ1, 0, 0)) 1 rfl ?_
  refine T_cs (i := iI) (as := [.inl (v2)]) (rest := []) (st := [.inl (v2)]) rfl (lb rfl) rfl rfl ⟨lb rfl, lb rfl, lb rfl, lb rfl⟩ (fun _ h => Ew_le (lb rfl) (s_X4_kindOf v2 σ1 _ h)) (fun r3 => ?_)
  show Snd false none _ _ _ (cN iU) (14, [(2, .inl (v2)), (0, .inr (.inr (x0))), (1, .inr (.inr (x1)))], [.inl (r3.1)], hp r3.2, 0, 0)
  refine T_go (S' := (15, [(2, .inl (v2)), (0, .inr (.inr (x0))), (1, .inr (.inr (x1)))], [.inl ((1 : Int32)), .inl (r3.1)], hp r3.2, 0, 0)) 1 rfl ?_
  refine T_icmp_ne 40 rfl rfl (fun _ => ?_) (fun _ => ?_)
  · refine T_go (S' := (42, [(2, .inl (v2)), (0, .inr (.inr (x0))), (1, .inr (.inr (x1)))], [.inl (v2), .inr (.inr (x1))], hp r3.2, 0, 0)) 2 rfl ?_
    refine T_cs (i := iI) (as := [.inl (v2)]) (rest := [.inr (.inr (x1))]) (st := [.inl (v2), .inr (.inr (x1))]) rfl (lb rfl) rfl rfl ⟨lb rfl, lb rfl, lb rfl, lb rfl⟩ (fun _ h => Ew_le (lb rfl) (s_X4_coreOf v2 r3.2 _ h)) (fun r4 => ?_)
    show Snd false none _ _ _ (cN iU) (45, [(2, .inl (v2)), (0, .inr (.inr (x0))), (1, .inr (.inr (x1)))], [.inl (r4.1), .inr (.inr (x1))], hp r4.2, 0, 0)
    refine T_cv (i := iU) (as := [.inr (.inr (x1)), .inl (r4.1)]) (rest := []) (st := [.inl (r4.1), .inr (.inr (x1))]) rfl rfl rfl ⟨lb rfl, lb rfl, lb rfl, lb rfl⟩ (fun _ h => Ew_le (lb rfl) (s_X2_becomeSharedWith x1 r4.1 r4.2 _ h)) (fun _ r5 => ?_)
    show Snd false none _ _ _ (cN iU) (48, [(2, .inl (v2)), (0, .inr (.inr (x0))), (1, .inr (.inr (x1)))], [], hp r5.2, 0, 0)
    refine T_go (S' := (53, [(2, .inl (v2)), (0, .inr (.inr (x0))), (1, .inr (.inr (x1)))], [.inr (.inr (x1)), .inl (v2), .inl ((6 : Int32)), .inr (.inr (x0))], hp r5.2, 0, 0)) 4 rfl ?_
    refine T_getI rfl (fun _ => ?_)
    refine T_cv (i := iU) (as := [.inr (.inr (x0)), .inl ((6 : Int32)), .inl (v2), .inl ((r5.2.1 x1 0))]) (rest := []) (st := [.inl ((r5.2.1 x1 0)), .inl (v2), .inl ((6 : Int32)), .inr (.inr (x0))]) rfl rfl rfl ⟨lb rfl, lb rfl, lb rfl, lb rfl⟩ (fun _ h => Ew_le (lb rfl) (s_X1_answer x0 (6 : Int32) v2 (r5.2.1 x1 0) r5.2 _ h)) (fun _ r6 => ?_)
    show Snd false none _ _ _ (cN iU) (59, [(2, .inl (v2)), (0, .inr (.inr (x0))), (1, .inr (.inr (x1)))], [], hp r6.2, 0, 0)
    refine T_loc (ls' := []) [] rfl ?_
    exact s_X1_finish_59  r6.2
  · refine T_go (S' := (20, [(2, .inl (v2)), (0, .inr (.inr (x0))), (1, .inr (.inr (x1)))], [.inl (v2), .inr (.inr (x1))], hp r3.2, 0, 0)) 2 rfl ?_
    refine T_cs (i := iI) (as := [.inl (v2)]) (rest := [.inr (.inr (x1))]) (st := [.inl (v2), .inr (.inr (x1))]) rfl (lb rfl) rfl rfl ⟨lb rfl, lb rfl, lb rfl, lb rfl⟩ (fun _ h => Ew_le (lb rfl) (s_X4_coreOf v2 r3.2 _ h)) (fun r7 => ?_)
    show Snd false none _ _ _ (cN iU) (23, [(2, .inl (v2)), (0, .inr (.inr (x0))), (1, .inr (.inr (x1)))], [.inl (r7.1), .inr (.inr (x1))], hp r7.2, 0, 0)
    refine T_cv (i := iU) (as := [.inr (.inr (x1)), .inl (r7.1)]) (rest := []) (st := [.inl (r7.1), .inr (.inr (x1))]) rfl rfl rfl ⟨lb rfl, lb rfl, lb rfl, lb rfl⟩ (fun _ h => Ew_le (lb rfl) (s_X2_belongTo x1 r7.1 r7.2 _ h)) (fun _ r8 => ?_)
    show Snd false none _ _ _ (cN iU) (26, [(2, .inl (v2)), (0, .inr (.inr (x0))), (1, .inr (.inr (x1)))], [], hp r8.2, 0, 0)
    refine T_go (S' := (31, [(2, .inl (v2)), (0, .inr (.inr (x0))), (1, .inr (.inr (x1)))], [.inr (.inr (x1)), .inl (v2), .inl ((8 : Int32)), .inr (.inr (x0))], hp r8.2, 0, 0)) 4 rfl ?_
    refine T_getI rfl (fun _ => ?_)
    refine T_cv (i := iU) (as := [.inr (.inr (x0)), .inl ((8 : Int32)), .inl (v2), .inl ((r8.2.1 x1 0))]) (rest := []) (st := [.inl ((r8.2.1 x1 0)), .inl (v2), .inl ((8 : Int32)), .inr (.inr (x0))]) rfl rfl rfl ⟨lb rfl, lb rfl, lb rfl, lb rfl⟩ (fun _ h => Ew_le (lb rfl) (s_X1_answer x0 (8 : Int32) v2 (r8.2.1 x1 0) r8.2 _ h)) (fun _ r9 => ?_)
    show Snd false none _ _ _ (cN iU) (37, [(2, .inl (v2)), (0, .inr (.inr (x0))), (1, .inr (.inr (x1)))], [], hp r9.2, 0, 0)
    refine T_go (S' := (59, [(2, .inl (v2)), (0, .inr (.inr (x0))), (1, .inr (.inr (x1)))], [], hp r9.2, 0, 0)) 1 rfl ?_
    refine T_loc (ls' := []) [] rfl ?_
    exact s_X1_finish_59  r9.2
def f_X2_takeFromRow_58 (x1 : Int32) (σ : eMem) : Option (Int32 × eMem) :=
  some (x1, σ)
set_option maxHeartbeats 4000000 in
set_option maxRecDepth 20000 in
theorem s_X2_takeFromRow_58 (x1 : Int32) (σ : eMem) : Snd false none 0 m_X2_takeFromRow (f_X2_takeFromRow_58 x1 σ) (cN iI) (58, [(1, .inl (x1))], [], hp σ, 0, 0) := by
  unfold f_X2_takeFromRow_58
  refine T_go (S' := (59, [(1, .inl (x1))], [.inl (x1)], hp σ, 0, 0)) 1 rfl ?_
  exact T_ret rfl
def f_X2_takeFromRow_19 : Nat → Nat → Int32 → Int32 → eMem → Option (Int32 × eMem)
  | 0, _, _, _, _ => none
  | n + 1, x0, x1, x2, σ =>
    if (KH x0).1 = 2 then
      if (σ.1 x0 7) ≤ x2 then
        f_X2_takeFromRow_58 x1 σ
      else
        if (KH x0).1 = 2 then
          if 11 ≤ (KH (RH x0 6)).1 ∧ (KH (RH x0 6)).1 < 18 then
            if (Int32.ofNat (KH (RH x0 6)).2) ≤ (x2 + (1 : Int32)) then
              f_X2_takeFromRow_58 x1 σ
            else
              if (KH x0).1 = 2 then
                if (KH x0).1 = 2 then
                  if (KH (RH x0 6)).1 = 11 ∧ eix (x2 + (1 : Int32)) (KH (RH x0 6)).2 = true then
                    if (KH (RH x0 6)).1 = 11 ∧ eix x2 (KH (RH x0 6)).2 = true then eLet ((eup σ.1 (RH x0 6) x2.toNatClampNeg (σ.1 (RH x0 6) (x2 + (1 : Int32)).toNatClampNeg), σ.2) : eMem) (fun σ1 =>
                      f_X2_takeFromRow_19 n x0 x1 (x2 + (1 : Int32)) σ1
                      ) else none
                  else none
                else none
              else none
          else none
        else none
    else none
set_option maxHeartbeats 4000000 in
set_option maxRecDepth 20000 in
theorem s_X2_takeFromRow_19 : ∀ (n : Nat) (x0 : Nat) (x1 : Int32) (x2 : Int32) (σ : eMem), Snd false none 0 m_X2_takeFromRow (f_X2_takeFromRow_19 n x0 x1 x2 σ) (cN iI) (19, [(0, .inr (.inr (x0))), (1, .inl (x1)), (2, .inl (x2))], [], hp σ, 0, 0) := by
  intro n
  induction n with
  | zero => exact fun _ _ _ _ => T_none
  | succ n ih =>
    intro x0 x1 x2 σ
    unfold f_X2_takeFromRow_19
    refine T_go (S' := (21, [(0, .inr (.inr (x0))), (1, .inl (x1)), (2, .inl (x2))], [.inr (.inr (x0)), .inl (x2)], hp σ, 0, 0)) 2 rfl ?_
    refine T_getI rfl (fun _ => ?_)
    refine T_icmp_ge 58 rfl rfl (fun _ => ?_) (fun _ => ?_)
    · refine T_loc (ls' := [(1, .inl (x1))]) [1] rfl ?_
      exact s_X2_takeFromRow_58 x1 σ
    · refine T_go (S' := (31, [(0, .inr (.inr (x0))), (1, .inl (x1)), (2, .inl (x2))], [.inr (.inr (x0)), .inl ((x2 + (1 : Int32)))], hp σ, 0, 0)) 4 rfl ?_
      refine T_getR rfl (fun _ => ?_)
      refine T_alen rfl (fun _ => ?_)
      refine T_icmp_ge 58 rfl rfl (fun _ => ?_) (fun _ => ?_)
      · refine T_loc (ls' := [(1, .inl (x1))]) [1] rfl ?_
        exact s_X2_takeFromRow_58 x1 σ
      · refine T_go (S' := (39, [(0, .inr (.inr (x0))), (1, .inl (x1)), (2, .inl (x2))], [.inr (.inr (x0))], hp σ, 0, 0)) 1 rfl ?_
        refine T_getR rfl (fun _ => ?_)
        refine T_go (S' := (44, [(0, .inr (.inr (x0))), (1, .inl (x1)), (2, .inl (x2))], [.inr (.inr (x0)), .inl (x2), .inr (.inr ((RH x0 6)))], hp σ, 0, 0)) 2 rfl ?_
        refine T_getR rfl (fun _ => ?_)
        refine T_go (S' := (50, [(0, .inr (.inr (x0))), (1, .inl (x1)), (2, .inl (x2))], [.inl ((x2 + (1 : Int32))), .inr (.inr ((RH x0 6))), .inl (x2), .inr (.inr ((RH x0 6)))], hp σ, 0, 0)) 3 rfl ?_
        refine T_iald rfl (fun _ => ?_)
        refine T_iast rfl (fun _ => ?_)
        refine T_let (Sf := fun σ1 => (52, [(0, .inr (.inr (x0))), (1, .inl (x1)), (2, .inl (x2))], [], hp σ1, 0, 0)) (fun σ1 => ?_)
        refine T_go (S' := (19, [(2, .inl ((x2 + (1 : Int32)))), (0, .inr (.inr (x0))), (1, .inl (x1))], [], hp σ1, 0, 0)) 2 rfl ?_
        refine T_loc (ls' := [(0, .inr (.inr (x0))), (1, .inl (x1)), (2, .inl ((x2 + (1 : Int32))))]) [1, 2, 0] rfl ?_
        exact ih x0 x1 (x2 + (1 : Int32)) σ1
def f_X2_takeFromRow (x0 : Nat) (σ : eMem) : Option (Int32 × eMem) :=
  if (KH x0).1 = 2 then
    if (KH (RH x0 6)).1 = 11 ∧ eix (0 : Int32) (KH (RH x0 6)).2 = true then
      eLet ((σ.1 (RH x0 6) (0 : Int32).toNatClampNeg) : Int32) (fun v1 =>
        if (KH x0).1 = 2 then
          if (KH x0).1 = 2 then eLet ((eup σ.1 x0 7 ((σ.1 x0 7) - (1 : Int32)), σ.2) : eMem) (fun σ2 =>
            f_X2_takeFromRow_19 1000000 x0 v1 (0 : Int32) σ2
            ) else none
        else none
        )
    else none
  else none
set_option maxHeartbeats 4000000 in
set_option maxRecDepth 20000 in
theorem s_X2_takeFromRow (x0 : Nat) (σ : eMem) : ∀ r, f_X2_takeFromRow x0 σ = some r → Ew false 1 39 [.inr (.inr (x0))] (hp σ) (cN iI r) := by
  refine T_meth (md := m_X2_takeFromRow) (d0 := 0) (cv := (cN iI)) rfl (lb rfl) (lb rfl) ?_
  unfold f_X2_takeFromRow
  show Snd false none _ _ _ _ (0, [(0, .inr (.inr (x0)))], [], hp σ, 0, 0)
  refine T_go (S' := (1, [(0, .inr (.inr (x0)))], [.inr (.inr (x0))], hp σ, 0, 0)) 1 rfl ?_
  refine T_getR rfl (fun _ => ?_)
  refine T_go (S' := (5, [(0, .inr (.inr (x0)))], [.inl ((0 : Int32)), .inr (.inr ((RH x0 6)))], hp σ, 0, 0)) 1 rfl ?_
  refine T_iald rfl (fun _ => ?_)
  refine T_go (S' := (7, [(1, .inl ((σ.1 (RH x0 6) (0 : Int32).toNatClampNeg))), (0, .inr (.inr (x0)))], [], hp σ, 0, 0)) 1 rfl ?_
  refine T_let (Sf := fun v1 => (7, [(1, .inl (v1)), (0, .inr (.inr (x0)))], [], hp σ, 0, 0)) (fun v1 => ?_)
  refine T_go (S' := (9, [(1, .inl (v1)), (0, .inr (.inr (x0)))], [.inr (.inr (x0)), .inr (.inr (x0))], hp σ, 0, 0)) 2 rfl ?_
  refine T_getI rfl (fun _ => ?_)
  refine T_go (S' := (14, [(1, .inl (v1)), (0, .inr (.inr (x0)))], [.inl (((σ.1 x0 7) - (1 : Int32))), .inr (.inr (x0))], hp σ, 0, 0)) 2 rfl ?_
  refine T_putI rfl (fun _ => ?_)
  refine T_let (Sf := fun σ2 => (17, [(1, .inl (v1)), (0, .inr (.inr (x0)))], [], hp σ2, 0, 0)) (fun σ2 => ?_)
  refine T_go (S' := (19, [(2, .inl ((0 : Int32))), (1, .inl (v1)), (0, .inr (.inr (x0)))], [], hp σ2, 0, 0)) 2 rfl ?_
  refine T_loc (ls' := [(0, .inr (.inr (x0))), (1, .inl (v1)), (2, .inl ((0 : Int32)))]) [2, 1, 0] rfl ?_
  exact s_X2_takeFromRow_19 1000000 x0 v1 (0 : Int32) σ2
def f_X1_receiveAnswer_93  (σ : eMem) : Option (Unit × eMem) :=
  some ((), σ)
set_option maxHeartbeats 4000000 in
set_option maxRecDepth 20000 in
theorem s_X1_receiveAnswer_93  (σ : eMem) : Snd false none 4 m_X1_receiveAnswer (f_X1_receiveAnswer_93 σ) (cN iU) (93, [], [], hp σ, 0, 0) := by
  unfold f_X1_receiveAnswer_93
  exact T_ret rfl
def f_X1_receiveAnswer_59 : Nat → Nat → Nat → Int32 → eMem → Option (Unit × eMem)
  | 0, _, _, _, _ => none
  | n + 1, x0, x2, x3, σ =>
    if (4 : Int32) ≤ x3 then
      f_X1_receiveAnswer_93  σ
    else
      if (KH x2).1 = 2 then
        if (σ.1 x2 7) ≤ (0 : Int32) then
          f_X1_receiveAnswer_93  σ
        else
          if (KH x2).1 = 2 then
            if ¬ (σ.1 x2 3) = (0 : Int32) then
              f_X1_receiveAnswer_93  σ
            else
              if (KH x2).1 = 2 then
                Option.bind (f_X2_takeFromRow x2 σ) (fun r1 =>
                  if (KH x0).1 = 1 then
                    Option.bind (f_X1_serve x0 x2 r1.1 r1.2) (fun r2 =>
                      f_X1_receiveAnswer_59 n x0 x2 (x3 + (1 : Int32)) r2.2
                      )
                  else none
                  )
              else none
          else none
      else none
set_option maxHeartbeats 4000000 in
set_option maxRecDepth 20000 in
theorem s_X1_receiveAnswer_59 : ∀ (n : Nat) (x0 : Nat) (x2 : Nat) (x3 : Int32) (σ : eMem), Snd false none 4 m_X1_receiveAnswer (f_X1_receiveAnswer_59 n x0 x2 x3 σ) (cN iU) (59, [(0, .inr (.inr (x0))), (2, .inr (.inr (x2))), (3, .inl (x3))], [], hp σ, 0, 0) := by
  intro n
  induction n with
  | zero => exact fun _ _ _ _ => T_none
  | succ n ih =>
    intro x0 x2 x3 σ
    unfold f_X1_receiveAnswer_59
    refine T_go (S' := (61, [(0, .inr (.inr (x0))), (2, .inr (.inr (x2))), (3, .inl (x3))], [.inl ((4 : Int32)), .inl (x3)], hp σ, 0, 0)) 2 rfl ?_
    refine T_icmp_ge 93 rfl rfl (fun _ => ?_) (fun _ => ?_)
    · refine T_loc (ls' := []) [] rfl ?_
      exact s_X1_receiveAnswer_93  σ
    · refine T_go (S' := (65, [(0, .inr (.inr (x0))), (2, .inr (.inr (x2))), (3, .inl (x3))], [.inr (.inr (x2))], hp σ, 0, 0)) 1 rfl ?_
      refine T_getI rfl (fun _ => ?_)
      refine T_if_le 93 rfl rfl (fun _ => ?_) (fun _ => ?_)
      · refine T_loc (ls' := []) [] rfl ?_
        exact s_X1_receiveAnswer_93  σ
      · refine T_go (S' := (72, [(0, .inr (.inr (x0))), (2, .inr (.inr (x2))), (3, .inl (x3))], [.inr (.inr (x2))], hp σ, 0, 0)) 1 rfl ?_
        refine T_getI rfl (fun _ => ?_)
        refine T_if_ne 93 rfl rfl (fun _ => ?_) (fun _ => ?_)
        · refine T_loc (ls' := []) [] rfl ?_
          exact s_X1_receiveAnswer_93  σ
        · refine T_go (S' := (81, [(0, .inr (.inr (x0))), (2, .inr (.inr (x2))), (3, .inl (x3))], [.inr (.inr (x2)), .inr (.inr (x2)), .inr (.inr (x0))], hp σ, 0, 0)) 3 rfl ?_
          refine T_cv (i := iI) (as := [.inr (.inr (x2))]) (rest := [.inr (.inr (x2)), .inr (.inr (x0))]) (st := [.inr (.inr (x2)), .inr (.inr (x2)), .inr (.inr (x0))]) rfl rfl rfl ⟨lb rfl, lb rfl, lb rfl, lb rfl⟩ (fun _ h => Ew_le (lb rfl) (s_X2_takeFromRow x2 σ _ h)) (fun _ r1 => ?_)
          show Snd false none _ _ _ (cN iU) (84, [(0, .inr (.inr (x0))), (2, .inr (.inr (x2))), (3, .inl (x3))], [.inl (r1.1), .inr (.inr (x2)), .inr (.inr (x0))], hp r1.2, 0, 0)
          refine T_cv (i := iU) (as := [.inr (.inr (x0)), .inr (.inr (x2)), .inl (r1.1)]) (rest := []) (st := [.inl (r1.1), .inr (.inr (x2)), .inr (.inr (x0))]) rfl rfl rfl ⟨lb rfl, lb rfl, lb rfl, lb rfl⟩ (fun _ h => Ew_le (lb rfl) (s_X1_serve x0 x2 r1.1 r1.2 _ h)) (fun _ r2 => ?_)
          show Snd false none _ _ _ (cN iU) (87, [(0, .inr (.inr (x0))), (2, .inr (.inr (x2))), (3, .inl (x3))], [], hp r2.2, 0, 0)
          refine T_go (S' := (59, [(3, .inl ((x3 + (1 : Int32)))), (0, .inr (.inr (x0))), (2, .inr (.inr (x2)))], [], hp r2.2, 0, 0)) 2 rfl ?_
          refine T_loc (ls' := [(0, .inr (.inr (x0))), (2, .inr (.inr (x2))), (3, .inl ((x3 + (1 : Int32))))]) [1, 2, 0] rfl ?_
          exact ih x0 x2 (x3 + (1 : Int32)) r2.2
def f_X1_receiveAnswer_34 (x0 : Nat) (x2 : Nat) (σ : eMem) : Option (Unit × eMem) :=
  if (KH x2).1 = 2 then
    if (KH x2).1 = 2 then eLet ((eup σ.1 x2 5 ((σ.1 x2 5) - (1 : Int32)), σ.2) : eMem) (fun σ1 =>
      if (KH x2).1 = 2 then
        if (σ1.1 x2 5) ≤ (0 : Int32) then
          if (KH x0).1 = 1 then
            Option.bind (f_X1_finish x0 x2 σ1) (fun r2 =>
              f_X1_receiveAnswer_59 1000000 x0 x2 (0 : Int32) r2.2
              )
          else none
        else
          some ((), σ1)
      else none
      ) else none
  else none
set_option maxHeartbeats 4000000 in
set_option maxRecDepth 20000 in
theorem s_X1_receiveAnswer_34 (x0 : Nat) (x2 : Nat) (σ : eMem) : Snd false none 4 m_X1_receiveAnswer (f_X1_receiveAnswer_34 x0 x2 σ) (cN iU) (34, [(0, .inr (.inr (x0))), (2, .inr (.inr (x2)))], [], hp σ, 0, 0) := by
  unfold f_X1_receiveAnswer_34
  refine T_go (S' := (36, [(0, .inr (.inr (x0))), (2, .inr (.inr (x2)))], [.inr (.inr (x2)), .inr (.inr (x2))], hp σ, 0, 0)) 2 rfl ?_
  refine T_getI rfl (fun _ => ?_)
  refine T_go (S' := (41, [(0, .inr (.inr (x0))), (2, .inr (.inr (x2)))], [.inl (((σ.1 x2 5) - (1 : Int32))), .inr (.inr (x2))], hp σ, 0, 0)) 2 rfl ?_
  refine T_putI rfl (fun _ => ?_)
  refine T_let (Sf := fun σ1 => (44, [(0, .inr (.inr (x0))), (2, .inr (.inr (x2)))], [], hp σ1, 0, 0)) (fun σ1 => ?_)
  refine T_go (S' := (45, [(0, .inr (.inr (x0))), (2, .inr (.inr (x2)))], [.inr (.inr (x2))], hp σ1, 0, 0)) 1 rfl ?_
  refine T_getI rfl (fun _ => ?_)
  refine T_if_le 52 rfl rfl (fun _ => ?_) (fun _ => ?_)
  · refine T_go (S' := (54, [(0, .inr (.inr (x0))), (2, .inr (.inr (x2)))], [.inr (.inr (x2)), .inr (.inr (x0))], hp σ1, 0, 0)) 2 rfl ?_
    refine T_cv (i := iU) (as := [.inr (.inr (x0)), .inr (.inr (x2))]) (rest := []) (st := [.inr (.inr (x2)), .inr (.inr (x0))]) rfl rfl rfl ⟨lb rfl, lb rfl, lb rfl, lb rfl⟩ (fun _ h => Ew_le (lb rfl) (s_X1_finish x0 x2 σ1 _ h)) (fun _ r2 => ?_)
    show Snd false none _ _ _ (cN iU) (57, [(0, .inr (.inr (x0))), (2, .inr (.inr (x2)))], [], hp r2.2, 0, 0)
    refine T_go (S' := (59, [(3, .inl ((0 : Int32))), (0, .inr (.inr (x0))), (2, .inr (.inr (x2)))], [], hp r2.2, 0, 0)) 2 rfl ?_
    refine T_loc (ls' := [(0, .inr (.inr (x0))), (2, .inr (.inr (x2))), (3, .inl ((0 : Int32)))]) [1, 2, 0] rfl ?_
    exact s_X1_receiveAnswer_59 1000000 x0 x2 (0 : Int32) r2.2
  · exact T_ret rfl
def f_X1_receiveAnswer (x0 : Nat) (x1 : Int32) (σ : eMem) : Option (Unit × eMem) :=
  if (KH x0).1 = 1 then
    Option.bind (f_X4_lineOf x1 σ) (fun r1 =>
      if (KH (RH x0 0)).1 = 15 ∧ eix r1.1 (KH (RH x0 0)).2 = true then
        eLet ((RH (RH x0 0) r1.1.toNatClampNeg) : Nat) (fun v2 =>
          if (KH v2).1 = 2 then
            if ¬ (r1.2.1 v2 3) = (0 : Int32) then
              Option.bind (f_X4_valueOf x1 r1.2) (fun r3 =>
                if r3.1 = (-1 : Int32) then
                  f_X1_receiveAnswer_34 x0 v2 r3.2
                else
                  Option.bind (f_X4_valueOf x1 r3.2) (fun r4 =>
                    if (KH v2).1 = 2 then eLet ((eup r4.2.1 v2 0 r4.1, r4.2.2) : eMem) (fun σ5 =>
                      f_X1_receiveAnswer_34 x0 v2 σ5
                      ) else none
                    )
                )
            else
              some ((), r1.2)
          else none
          )
      else none
      )
  else none
set_option maxHeartbeats 4000000 in
set_option maxRecDepth 20000 in
theorem s_X1_receiveAnswer (x0 : Nat) (x1 : Int32) (σ : eMem) : ∀ r, f_X1_receiveAnswer x0 x1 σ = some r → Ew false 5 25 [.inr (.inr (x0)), .inl (x1)] (hp σ) (cN iU r) := by
  refine T_meth (md := m_X1_receiveAnswer) (d0 := 4) (cv := (cN iU)) rfl (lb rfl) (lb rfl) ?_
  unfold f_X1_receiveAnswer
  show Snd false none _ _ _ _ (0, [(0, .inr (.inr (x0))), (1, .inl (x1))], [], hp σ, 0, 0)
  refine T_go (S' := (1, [(0, .inr (.inr (x0))), (1, .inl (x1))], [.inr (.inr (x0))], hp σ, 0, 0)) 1 rfl ?_
  refine T_getR rfl (fun _ => ?_)
  refine T_go (S' := (5, [(0, .inr (.inr (x0))), (1, .inl (x1))], [.inl (x1), .inr (.inr ((RH x0 0)))], hp σ, 0, 0)) 1 rfl ?_
  refine T_cs (i := iI) (as := [.inl (x1)]) (rest := [.inr (.inr ((RH x0 0)))]) (st := [.inl (x1), .inr (.inr ((RH x0 0)))]) rfl (lb rfl) rfl rfl ⟨lb rfl, lb rfl, lb rfl, lb rfl⟩ (fun _ h => Ew_le (lb rfl) (s_X4_lineOf x1 σ _ h)) (fun r1 => ?_)
  show Snd false none _ _ _ (cN iU) (8, [(0, .inr (.inr (x0))), (1, .inl (x1))], [.inl (r1.1), .inr (.inr ((RH x0 0)))], hp r1.2, 0, 0)
  refine T_aald rfl (fun _ => ?_)
  refine T_go (S' := (10, [(2, .inr (.inr ((RH (RH x0 0) r1.1.toNatClampNeg)))), (0, .inr (.inr (x0))), (1, .inl (x1))], [], hp r1.2, 0, 0)) 1 rfl ?_
  refine T_let (Sf := fun v2 => (10, [(2, .inr (.inr (v2))), (0, .inr (.inr (x0))), (1, .inl (x1))], [], hp r1.2, 0, 0)) (fun v2 => ?_)
  refine T_go (S' := (11, [(2, .inr (.inr (v2))), (0, .inr (.inr (x0))), (1, .inl (x1))], [.inr (.inr (v2))], hp r1.2, 0, 0)) 1 rfl ?_
  refine T_getI rfl (fun _ => ?_)
  refine T_if_ne 18 rfl rfl (fun _ => ?_) (fun _ => ?_)
  · refine T_go (S' := (19, [(2, .inr (.inr (v2))), (0, .inr (.inr (x0))), (1, .inl (x1))], [.inl (x1)], hp r1.2, 0, 0)) 1 rfl ?_
    refine T_cs (i := iI) (as := [.inl (x1)]) (rest := []) (st := [.inl (x1)]) rfl (lb rfl) rfl rfl ⟨lb rfl, lb rfl, lb rfl, lb rfl⟩ (fun _ h => Ew_le (lb rfl) (s_X4_valueOf x1 r1.2 _ h)) (fun r3 => ?_)
    show Snd false none _ _ _ (cN iU) (22, [(2, .inr (.inr (v2))), (0, .inr (.inr (x0))), (1, .inl (x1))], [.inl (r3.1)], hp r3.2, 0, 0)
    refine T_go (S' := (23, [(2, .inr (.inr (v2))), (0, .inr (.inr (x0))), (1, .inl (x1))], [.inl ((-1 : Int32)), .inl (r3.1)], hp r3.2, 0, 0)) 1 rfl ?_
    refine T_icmp_eq 34 rfl rfl (fun _ => ?_) (fun _ => ?_)
    · refine T_loc (ls' := [(0, .inr (.inr (x0))), (2, .inr (.inr (v2)))]) [1, 0] rfl ?_
      exact s_X1_receiveAnswer_34 x0 v2 r3.2
    · refine T_go (S' := (28, [(2, .inr (.inr (v2))), (0, .inr (.inr (x0))), (1, .inl (x1))], [.inl (x1), .inr (.inr (v2))], hp r3.2, 0, 0)) 2 rfl ?_
      refine T_cs (i := iI) (as := [.inl (x1)]) (rest := [.inr (.inr (v2))]) (st := [.inl (x1), .inr (.inr (v2))]) rfl (lb rfl) rfl rfl ⟨lb rfl, lb rfl, lb rfl, lb rfl⟩ (fun _ h => Ew_le (lb rfl) (s_X4_valueOf x1 r3.2 _ h)) (fun r4 => ?_)
      show Snd false none _ _ _ (cN iU) (31, [(2, .inr (.inr (v2))), (0, .inr (.inr (x0))), (1, .inl (x1))], [.inl (r4.1), .inr (.inr (v2))], hp r4.2, 0, 0)
      refine T_putI rfl (fun _ => ?_)
      refine T_let (Sf := fun σ5 => (34, [(2, .inr (.inr (v2))), (0, .inr (.inr (x0))), (1, .inl (x1))], [], hp σ5, 0, 0)) (fun σ5 => ?_)
      refine T_loc (ls' := [(0, .inr (.inr (x0))), (2, .inr (.inr (v2)))]) [1, 0] rfl ?_
      exact s_X1_receiveAnswer_34 x0 v2 σ5
  · exact T_ret rfl
def f_X3_size_26 (s0 : Int32) (σ : eMem) : Option (Int32 × eMem) :=
  some (s0, σ)
set_option maxHeartbeats 4000000 in
set_option maxRecDepth 20000 in
theorem s_X3_size_26 (s0 : Int32) (σ : eMem) : Snd false none 0 m_X3_size (f_X3_size_26 s0 σ) (cN iI) (26, [], [.inl (s0)], hp σ, 0, 0) := by
  unfold f_X3_size_26
  exact T_ret rfl
def f_X3_size_16  (σ : eMem) : Option (Int32 × eMem) :=
  f_X3_size_26 (0 : Int32) σ
set_option maxHeartbeats 4000000 in
set_option maxRecDepth 20000 in
theorem s_X3_size_16  (σ : eMem) : Snd false none 0 m_X3_size (f_X3_size_16 σ) (cN iI) (16, [], [], hp σ, 0, 0) := by
  unfold f_X3_size_16
  refine T_go (S' := (26, [], [.inl ((0 : Int32))], hp σ, 0, 0)) 2 rfl ?_
  refine T_loc (ls' := []) [] rfl ?_
  exact s_X3_size_26 (0 : Int32) σ
def f_X3_size (x0 : Nat) (x1 : Int32) (x2 : Int32) (σ : eMem) : Option (Int32 × eMem) :=
  eLet (((x1 * (5 : Int32)) + x2) : Int32) (fun v1 =>
    if v1 < (0 : Int32) then
      f_X3_size_16  σ
    else
      if v1 < (15 : Int32) then
        if (KH x0).1 = 3 then
          if (KH (RH x0 2)).1 = 11 ∧ eix v1 (KH (RH x0 2)).2 = true then
            f_X3_size_26 (σ.1 (RH x0 2) v1.toNatClampNeg) σ
          else none
        else none
      else
        f_X3_size_16  σ
    )
set_option maxHeartbeats 4000000 in
set_option maxRecDepth 20000 in
theorem s_X3_size (x0 : Nat) (x1 : Int32) (x2 : Int32) (σ : eMem) : ∀ r, f_X3_size x0 x1 x2 σ = some r → Ew false 1 42 [.inr (.inr (x0)), .inl (x1), .inl (x2)] (hp σ) (cN iI r) := by
  refine T_meth (md := m_X3_size) (d0 := 0) (cv := (cN iI)) rfl (lb rfl) (lb rfl) ?_
  unfold f_X3_size
  show Snd false none _ _ _ _ (0, [(0, .inr (.inr (x0))), (1, .inl (x1)), (2, .inl (x2))], [], hp σ, 0, 0)
  refine T_go (S' := (6, [(3, .inl (((x1 * (5 : Int32)) + x2))), (0, .inr (.inr (x0))), (1, .inl (x1)), (2, .inl (x2))], [], hp σ, 0, 0)) 6 rfl ?_
  refine T_let (Sf := fun v1 => (6, [(3, .inl (v1)), (0, .inr (.inr (x0))), (1, .inl (x1)), (2, .inl (x2))], [], hp σ, 0, 0)) (fun v1 => ?_)
  refine T_go (S' := (7, [(3, .inl (v1)), (0, .inr (.inr (x0))), (1, .inl (x1)), (2, .inl (x2))], [.inl (v1)], hp σ, 0, 0)) 1 rfl ?_
  refine T_if_lt 16 rfl rfl (fun _ => ?_) (fun _ => ?_)
  · refine T_loc (ls' := []) [] rfl ?_
    exact s_X3_size_16  σ
  · refine T_go (S' := (13, [(3, .inl (v1)), (0, .inr (.inr (x0))), (1, .inl (x1)), (2, .inl (x2))], [.inl ((15 : Int32)), .inl (v1)], hp σ, 0, 0)) 2 rfl ?_
    refine T_icmp_lt 20 rfl rfl (fun _ => ?_) (fun _ => ?_)
    · refine T_go (S' := (21, [(3, .inl (v1)), (0, .inr (.inr (x0))), (1, .inl (x1)), (2, .inl (x2))], [.inr (.inr (x0))], hp σ, 0, 0)) 1 rfl ?_
      refine T_getR rfl (fun _ => ?_)
      refine T_go (S' := (25, [(3, .inl (v1)), (0, .inr (.inr (x0))), (1, .inl (x1)), (2, .inl (x2))], [.inl (v1), .inr (.inr ((RH x0 2)))], hp σ, 0, 0)) 1 rfl ?_
      refine T_iald rfl (fun _ => ?_)
      refine T_loc (ls' := []) [] rfl ?_
      exact s_X3_size_26 (σ.1 (RH x0 2) v1.toNatClampNeg) σ
    · refine T_loc (ls' := []) [] rfl ?_
      exact s_X3_size_16  σ
def f_X3_take_25  (σ : eMem) : Option (Int32 × eMem) :=
  some ((-1 : Int32), σ)
set_option maxHeartbeats 4000000 in
set_option maxRecDepth 20000 in
theorem s_X3_take_25  (σ : eMem) : Snd false none 0 m_X3_take (f_X3_take_25 σ) (cN iI) (25, [], [], hp σ, 0, 0) := by
  unfold f_X3_take_25
  refine T_go (S' := (26, [], [.inl ((-1 : Int32))], hp σ, 0, 0)) 1 rfl ?_
  exact T_ret rfl
def f_X3_take (x0 : Nat) (x1 : Int32) (x2 : Int32) (σ : eMem) : Option (Int32 × eMem) :=
  eLet (((x1 * (5 : Int32)) + x2) : Int32) (fun v1 =>
    if v1 < (0 : Int32) then
      f_X3_take_25  σ
    else
      if (15 : Int32) ≤ v1 then
        f_X3_take_25  σ
      else
        if (KH x0).1 = 3 then
          if (KH (RH x0 2)).1 = 11 ∧ eix v1 (KH (RH x0 2)).2 = true then
            if ¬ (σ.1 (RH x0 2) v1.toNatClampNeg) = (0 : Int32) then
              if (KH x0).1 = 3 then
                if (KH (RH x0 0)).1 = 17 ∧ eix v1 (KH (RH x0 0)).2 = true then
                  if (KH x0).1 = 3 then
                    if (KH (RH x0 1)).1 = 11 ∧ eix v1 (KH (RH x0 1)).2 = true then
                      if (KH (RH (RH x0 0) v1.toNatClampNeg)).1 = 11 ∧ eix (σ.1 (RH x0 1) v1.toNatClampNeg) (KH (RH (RH x0 0) v1.toNatClampNeg)).2 = true then
                        eLet ((σ.1 (RH (RH x0 0) v1.toNatClampNeg) (σ.1 (RH x0 1) v1.toNatClampNeg).toNatClampNeg) : Int32) (fun v2 =>
                          if (KH x0).1 = 3 then
                            if (KH x0).1 = 3 then
                              if (KH (RH x0 1)).1 = 11 ∧ eix v1 (KH (RH x0 1)).2 = true then
                                if ¬ (64 : Int32) = 0 then
                                  if (KH (RH x0 1)).1 = 11 ∧ eix v1 (KH (RH x0 1)).2 = true then eLet ((eup σ.1 (RH x0 1) v1.toNatClampNeg (((σ.1 (RH x0 1) v1.toNatClampNeg) + (1 : Int32)) - ((σ.1 (RH x0 1) v1.toNatClampNeg) + (1 : Int32)) / (64 : Int32) * (64 : Int32)), σ.2) : eMem) (fun σ3 =>
                                    if (KH x0).1 = 3 then
                                      if (KH (RH x0 2)).1 = 11 ∧ eix v1 (KH (RH x0 2)).2 = true then
                                        if (KH (RH x0 2)).1 = 11 ∧ eix v1 (KH (RH x0 2)).2 = true then eLet ((eup σ3.1 (RH x0 2) v1.toNatClampNeg ((σ3.1 (RH x0 2) v1.toNatClampNeg) - (1 : Int32)), σ3.2) : eMem) (fun σ4 =>
                                          some (v2, σ4)
                                          ) else none
                                      else none
                                    else none
                                    ) else none
                                else none
                              else none
                            else none
                          else none
                          )
                      else none
                    else none
                  else none
                else none
              else none
            else
              f_X3_take_25  σ
          else none
        else none
    )
set_option maxHeartbeats 4000000 in
set_option maxRecDepth 20000 in
theorem s_X3_take (x0 : Nat) (x1 : Int32) (x2 : Int32) (σ : eMem) : ∀ r, f_X3_take x0 x1 x2 σ = some r → Ew false 1 44 [.inr (.inr (x0)), .inl (x1), .inl (x2)] (hp σ) (cN iI r) := by
  refine T_meth (md := m_X3_take) (d0 := 0) (cv := (cN iI)) rfl (lb rfl) (lb rfl) ?_
  unfold f_X3_take
  show Snd false none _ _ _ _ (0, [(0, .inr (.inr (x0))), (1, .inl (x1)), (2, .inl (x2))], [], hp σ, 0, 0)
  refine T_go (S' := (6, [(3, .inl (((x1 * (5 : Int32)) + x2))), (0, .inr (.inr (x0))), (1, .inl (x1)), (2, .inl (x2))], [], hp σ, 0, 0)) 6 rfl ?_
  refine T_let (Sf := fun v1 => (6, [(3, .inl (v1)), (0, .inr (.inr (x0))), (1, .inl (x1)), (2, .inl (x2))], [], hp σ, 0, 0)) (fun v1 => ?_)
  refine T_go (S' := (7, [(3, .inl (v1)), (0, .inr (.inr (x0))), (1, .inl (x1)), (2, .inl (x2))], [.inl (v1)], hp σ, 0, 0)) 1 rfl ?_
  refine T_if_lt 25 rfl rfl (fun _ => ?_) (fun _ => ?_)
  · refine T_loc (ls' := []) [] rfl ?_
    exact s_X3_take_25  σ
  · refine T_go (S' := (13, [(3, .inl (v1)), (0, .inr (.inr (x0))), (1, .inl (x1)), (2, .inl (x2))], [.inl ((15 : Int32)), .inl (v1)], hp σ, 0, 0)) 2 rfl ?_
    refine T_icmp_ge 25 rfl rfl (fun _ => ?_) (fun _ => ?_)
    · refine T_loc (ls' := []) [] rfl ?_
      exact s_X3_take_25  σ
    · refine T_go (S' := (17, [(3, .inl (v1)), (0, .inr (.inr (x0))), (1, .inl (x1)), (2, .inl (x2))], [.inr (.inr (x0))], hp σ, 0, 0)) 1 rfl ?_
      refine T_getR rfl (fun _ => ?_)
      refine T_go (S' := (21, [(3, .inl (v1)), (0, .inr (.inr (x0))), (1, .inl (x1)), (2, .inl (x2))], [.inl (v1), .inr (.inr ((RH x0 2)))], hp σ, 0, 0)) 1 rfl ?_
      refine T_iald rfl (fun _ => ?_)
      refine T_if_ne 27 rfl rfl (fun _ => ?_) (fun _ => ?_)
      · refine T_go (S' := (28, [(3, .inl (v1)), (0, .inr (.inr (x0))), (1, .inl (x1)), (2, .inl (x2))], [.inr (.inr (x0))], hp σ, 0, 0)) 1 rfl ?_
        refine T_getR rfl (fun _ => ?_)
        refine T_go (S' := (32, [(3, .inl (v1)), (0, .inr (.inr (x0))), (1, .inl (x1)), (2, .inl (x2))], [.inl (v1), .inr (.inr ((RH x0 0)))], hp σ, 0, 0)) 1 rfl ?_
        refine T_aald rfl (fun _ => ?_)
        refine T_go (S' := (34, [(3, .inl (v1)), (0, .inr (.inr (x0))), (1, .inl (x1)), (2, .inl (x2))], [.inr (.inr (x0)), .inr (.inr ((RH (RH x0 0) v1.toNatClampNeg)))], hp σ, 0, 0)) 1 rfl ?_
        refine T_getR rfl (fun _ => ?_)
        refine T_go (S' := (38, [(3, .inl (v1)), (0, .inr (.inr (x0))), (1, .inl (x1)), (2, .inl (x2))], [.inl (v1), .inr (.inr ((RH x0 1))), .inr (.inr ((RH (RH x0 0) v1.toNatClampNeg)))], hp σ, 0, 0)) 1 rfl ?_
        refine T_iald rfl (fun _ => ?_)
        refine T_iald rfl (fun _ => ?_)
        refine T_go (S' := (42, [(4, .inl ((σ.1 (RH (RH x0 0) v1.toNatClampNeg) (σ.1 (RH x0 1) v1.toNatClampNeg).toNatClampNeg))), (3, .inl (v1)), (0, .inr (.inr (x0))), (1, .inl (x1)), (2, .inl (x2))], [], hp σ, 0, 0)) 1 rfl ?_
        refine T_let (Sf := fun v2 => (42, [(4, .inl (v2)), (3, .inl (v1)), (0, .inr (.inr (x0))), (1, .inl (x1)), (2, .inl (x2))], [], hp σ, 0, 0)) (fun v2 => ?_)
        refine T_go (S' := (43, [(4, .inl (v2)), (3, .inl (v1)), (0, .inr (.inr (x0))), (1, .inl (x1)), (2, .inl (x2))], [.inr (.inr (x0))], hp σ, 0, 0)) 1 rfl ?_
        refine T_getR rfl (fun _ => ?_)
        refine T_go (S' := (48, [(4, .inl (v2)), (3, .inl (v1)), (0, .inr (.inr (x0))), (1, .inl (x1)), (2, .inl (x2))], [.inr (.inr (x0)), .inl (v1), .inr (.inr ((RH x0 1)))], hp σ, 0, 0)) 2 rfl ?_
        refine T_getR rfl (fun _ => ?_)
        refine T_go (S' := (52, [(4, .inl (v2)), (3, .inl (v1)), (0, .inr (.inr (x0))), (1, .inl (x1)), (2, .inl (x2))], [.inl (v1), .inr (.inr ((RH x0 1))), .inl (v1), .inr (.inr ((RH x0 1)))], hp σ, 0, 0)) 1 rfl ?_
        refine T_iald rfl (fun _ => ?_)
        refine T_go (S' := (57, [(4, .inl (v2)), (3, .inl (v1)), (0, .inr (.inr (x0))), (1, .inl (x1)), (2, .inl (x2))], [.inl ((64 : Int32)), .inl (((σ.1 (RH x0 1) v1.toNatClampNeg) + (1 : Int32))), .inl (v1), .inr (.inr ((RH x0 1)))], hp σ, 0, 0)) 3 rfl ?_
        refine T_irem rfl (fun _ => ?_)
        refine T_iast rfl (fun _ => ?_)
        refine T_let (Sf := fun σ3 => (59, [(4, .inl (v2)), (3, .inl (v1)), (0, .inr (.inr (x0))), (1, .inl (x1)), (2, .inl (x2))], [], hp σ3, 0, 0)) (fun σ3 => ?_)
        refine T_go (S' := (60, [(4, .inl (v2)), (3, .inl (v1)), (0, .inr (.inr (x0))), (1, .inl (x1)), (2, .inl (x2))], [.inr (.inr (x0))], hp σ3, 0, 0)) 1 rfl ?_
        refine T_getR rfl (fun _ => ?_)
        refine T_go (S' := (65, [(4, .inl (v2)), (3, .inl (v1)), (0, .inr (.inr (x0))), (1, .inl (x1)), (2, .inl (x2))], [.inl (v1), .inr (.inr ((RH x0 2))), .inl (v1), .inr (.inr ((RH x0 2)))], hp σ3, 0, 0)) 2 rfl ?_
        refine T_iald rfl (fun _ => ?_)
        refine T_go (S' := (68, [(4, .inl (v2)), (3, .inl (v1)), (0, .inr (.inr (x0))), (1, .inl (x1)), (2, .inl (x2))], [.inl (((σ3.1 (RH x0 2) v1.toNatClampNeg) - (1 : Int32))), .inl (v1), .inr (.inr ((RH x0 2)))], hp σ3, 0, 0)) 2 rfl ?_
        refine T_iast rfl (fun _ => ?_)
        refine T_let (Sf := fun σ4 => (69, [(4, .inl (v2)), (3, .inl (v1)), (0, .inr (.inr (x0))), (1, .inl (x1)), (2, .inl (x2))], [], hp σ4, 0, 0)) (fun σ4 => ?_)
        refine T_go (S' := (71, [(4, .inl (v2)), (3, .inl (v1)), (0, .inr (.inr (x0))), (1, .inl (x1)), (2, .inl (x2))], [.inl (v2)], hp σ4, 0, 0)) 1 rfl ?_
        exact T_ret rfl
      · refine T_loc (ls' := []) [] rfl ?_
        exact s_X3_take_25  σ
def f_X3_valueOnTheWayHome_L2 : Nat → (Nat × Int32 × Int32 ⊕ (Nat × Int32 × Int32)) → eMem → Option (Int32 × eMem)
  | 0, _, _ => none
  | n + 1, .inl (x0, x1, x2), σ =>
    if (KH x0).1 = 3 then
      if (KH (RH x0 2)).1 = 11 ∧ eix (14 : Int32) (KH (RH x0 2)).2 = true then
        if (σ.1 (RH x0 2) (14 : Int32).toNatClampNeg) ≤ x2 then
          some ((-1 : Int32), σ)
        else
          if (KH x0).1 = 3 then
            if (KH (RH x0 0)).1 = 17 ∧ eix (14 : Int32) (KH (RH x0 0)).2 = true then
              if (KH x0).1 = 3 then
                if (KH (RH x0 1)).1 = 11 ∧ eix (14 : Int32) (KH (RH x0 1)).2 = true then
                  if ¬ (64 : Int32) = 0 then
                    if (KH (RH (RH x0 0) (14 : Int32).toNatClampNeg)).1 = 11 ∧ eix (((σ.1 (RH x0 1) (14 : Int32).toNatClampNeg) + x2) - ((σ.1 (RH x0 1) (14 : Int32).toNatClampNeg) + x2) / (64 : Int32) * (64 : Int32)) (KH (RH (RH x0 0) (14 : Int32).toNatClampNeg)).2 = true then
                      eLet ((σ.1 (RH (RH x0 0) (14 : Int32).toNatClampNeg) (((σ.1 (RH x0 1) (14 : Int32).toNatClampNeg) + x2) - ((σ.1 (RH x0 1) (14 : Int32).toNatClampNeg) + x2) / (64 : Int32) * (64 : Int32)).toNatClampNeg) : Int32) (fun v1 =>
                        Option.bind (f_X4_lineOf v1 σ) (fun r2 =>
                          if ¬ r2.1 = x1 then
                            f_X3_valueOnTheWayHome_L2 n (.inr ((x0, x1, x2))) r2.2
                          else
                            Option.bind (f_X4_valueOf v1 r2.2) (fun r3 =>
                              if r3.1 = (-1 : Int32) then
                                f_X3_valueOnTheWayHome_L2 n (.inr ((x0, x1, x2))) r3.2
                              else
                                Option.bind (f_X4_valueOf v1 r3.2) (fun r4 =>
                                  some (r4.1, r4.2)
                                  )
                              )
                          )
                        )
                    else none
                  else none
                else none
              else none
            else none
          else none
      else none
    else none
  | n + 1, .inr ((x0, x1, x2)), σ =>
    f_X3_valueOnTheWayHome_L2 n (.inl (x0, x1, (x2 + (1 : Int32)))) σ
set_option maxHeartbeats 4000000 in
set_option maxRecDepth 20000 in
theorem s_X3_valueOnTheWayHome_L2 : ∀ (n : Nat), (∀ (x0 : Nat) (x1 : Int32) (x2 : Int32) (σ : eMem), Snd false none 1 m_X3_valueOnTheWayHome (f_X3_valueOnTheWayHome_L2 n (.inl (x0, x1, x2)) σ) (cN iI) (2, [(0, .inr (.inr (x0))), (1, .inl (x1)), (2, .inl (x2))], [], hp σ, 0, 0)) ∧ (∀ (x0 : Nat) (x1 : Int32) (x2 : Int32) (σ : eMem), Snd false none 1 m_X3_valueOnTheWayHome (f_X3_valueOnTheWayHome_L2 n (.inr ((x0, x1, x2))) σ) (cN iI) (55, [(0, .inr (.inr (x0))), (1, .inl (x1)), (2, .inl (x2))], [], hp σ, 0, 0)) := by
  intro n
  induction n with
  | zero => exact ⟨fun _ _ _ _ => T_none, fun _ _ _ _ => T_none⟩
  | succ n ih =>
    refine ⟨?_, ?_⟩
    · intro x0 x1 x2 σ
      unfold f_X3_valueOnTheWayHome_L2
      refine T_go (S' := (4, [(0, .inr (.inr (x0))), (1, .inl (x1)), (2, .inl (x2))], [.inr (.inr (x0)), .inl (x2)], hp σ, 0, 0)) 2 rfl ?_
      refine T_getR rfl (fun _ => ?_)
      refine T_go (S' := (9, [(0, .inr (.inr (x0))), (1, .inl (x1)), (2, .inl (x2))], [.inl ((14 : Int32)), .inr (.inr ((RH x0 2))), .inl (x2)], hp σ, 0, 0)) 1 rfl ?_
      refine T_iald rfl (fun _ => ?_)
      refine T_icmp_ge 61 rfl rfl (fun _ => ?_) (fun _ => ?_)
      · refine T_go (S' := (62, [(0, .inr (.inr (x0))), (1, .inl (x1)), (2, .inl (x2))], [.inl ((-1 : Int32))], hp σ, 0, 0)) 1 rfl ?_
        exact T_ret rfl
      · refine T_go (S' := (14, [(0, .inr (.inr (x0))), (1, .inl (x1)), (2, .inl (x2))], [.inr (.inr (x0))], hp σ, 0, 0)) 1 rfl ?_
        refine T_getR rfl (fun _ => ?_)
        refine T_go (S' := (19, [(0, .inr (.inr (x0))), (1, .inl (x1)), (2, .inl (x2))], [.inl ((14 : Int32)), .inr (.inr ((RH x0 0)))], hp σ, 0, 0)) 1 rfl ?_
        refine T_aald rfl (fun _ => ?_)
        refine T_go (S' := (21, [(0, .inr (.inr (x0))), (1, .inl (x1)), (2, .inl (x2))], [.inr (.inr (x0)), .inr (.inr ((RH (RH x0 0) (14 : Int32).toNatClampNeg)))], hp σ, 0, 0)) 1 rfl ?_
        refine T_getR rfl (fun _ => ?_)
        refine T_go (S' := (26, [(0, .inr (.inr (x0))), (1, .inl (x1)), (2, .inl (x2))], [.inl ((14 : Int32)), .inr (.inr ((RH x0 1))), .inr (.inr ((RH (RH x0 0) (14 : Int32).toNatClampNeg)))], hp σ, 0, 0)) 1 rfl ?_
        refine T_iald rfl (fun _ => ?_)
        refine T_go (S' := (31, [(0, .inr (.inr (x0))), (1, .inl (x1)), (2, .inl (x2))], [.inl ((64 : Int32)), .inl (((σ.1 (RH x0 1) (14 : Int32).toNatClampNeg) + x2)), .inr (.inr ((RH (RH x0 0) (14 : Int32).toNatClampNeg)))], hp σ, 0, 0)) 3 rfl ?_
        refine T_irem rfl (fun _ => ?_)
        refine T_iald rfl (fun _ => ?_)
        refine T_go (S' := (34, [(3, .inl ((σ.1 (RH (RH x0 0) (14 : Int32).toNatClampNeg) (((σ.1 (RH x0 1) (14 : Int32).toNatClampNeg) + x2) - ((σ.1 (RH x0 1) (14 : Int32).toNatClampNeg) + x2) / (64 : Int32) * (64 : Int32)).toNatClampNeg))), (0, .inr (.inr (x0))), (1, .inl (x1)), (2, .inl (x2))], [], hp σ, 0, 0)) 1 rfl ?_
        refine T_let (Sf := fun v1 => (34, [(3, .inl (v1)), (0, .inr (.inr (x0))), (1, .inl (x1)), (2, .inl (x2))], [], hp σ, 0, 0)) (fun v1 => ?_)
        refine T_go (S' := (35, [(3, .inl (v1)), (0, .inr (.inr (x0))), (1, .inl (x1)), (2, .inl (x2))], [.inl (v1)], hp σ, 0, 0)) 1 rfl ?_
        refine T_cs (i := iI) (as := [.inl (v1)]) (rest := []) (st := [.inl (v1)]) rfl (lb rfl) rfl rfl ⟨lb rfl, lb rfl, lb rfl, lb rfl⟩ (fun _ h => Ew_le (lb rfl) (s_X4_lineOf v1 σ _ h)) (fun r2 => ?_)
        show Snd false none _ _ _ (cN iI) (38, [(3, .inl (v1)), (0, .inr (.inr (x0))), (1, .inl (x1)), (2, .inl (x2))], [.inl (r2.1)], hp r2.2, 0, 0)
        refine T_go (S' := (39, [(3, .inl (v1)), (0, .inr (.inr (x0))), (1, .inl (x1)), (2, .inl (x2))], [.inl (x1), .inl (r2.1)], hp r2.2, 0, 0)) 1 rfl ?_
        refine T_icmp_ne 55 rfl rfl (fun _ => ?_) (fun _ => ?_)
        · refine T_loc (ls' := [(0, .inr (.inr (x0))), (1, .inl (x1)), (2, .inl (x2))]) [1, 2, 3] rfl ?_
          exact (ih.2) x0 x1 x2 r2.2
        · refine T_go (S' := (43, [(3, .inl (v1)), (0, .inr (.inr (x0))), (1, .inl (x1)), (2, .inl (x2))], [.inl (v1)], hp r2.2, 0, 0)) 1 rfl ?_
          refine T_cs (i := iI) (as := [.inl (v1)]) (rest := []) (st := [.inl (v1)]) rfl (lb rfl) rfl rfl ⟨lb rfl, lb rfl, lb rfl, lb rfl⟩ (fun _ h => Ew_le (lb rfl) (s_X4_valueOf v1 r2.2 _ h)) (fun r3 => ?_)
          show Snd false none _ _ _ (cN iI) (46, [(3, .inl (v1)), (0, .inr (.inr (x0))), (1, .inl (x1)), (2, .inl (x2))], [.inl (r3.1)], hp r3.2, 0, 0)
          refine T_go (S' := (47, [(3, .inl (v1)), (0, .inr (.inr (x0))), (1, .inl (x1)), (2, .inl (x2))], [.inl ((-1 : Int32)), .inl (r3.1)], hp r3.2, 0, 0)) 1 rfl ?_
          refine T_icmp_eq 55 rfl rfl (fun _ => ?_) (fun _ => ?_)
          · refine T_loc (ls' := [(0, .inr (.inr (x0))), (1, .inl (x1)), (2, .inl (x2))]) [1, 2, 3] rfl ?_
            exact (ih.2) x0 x1 x2 r3.2
          · refine T_go (S' := (51, [(3, .inl (v1)), (0, .inr (.inr (x0))), (1, .inl (x1)), (2, .inl (x2))], [.inl (v1)], hp r3.2, 0, 0)) 1 rfl ?_
            refine T_cs (i := iI) (as := [.inl (v1)]) (rest := []) (st := [.inl (v1)]) rfl (lb rfl) rfl rfl ⟨lb rfl, lb rfl, lb rfl, lb rfl⟩ (fun _ h => Ew_le (lb rfl) (s_X4_valueOf v1 r3.2 _ h)) (fun r4 => ?_)
            show Snd false none _ _ _ (cN iI) (54, [(3, .inl (v1)), (0, .inr (.inr (x0))), (1, .inl (x1)), (2, .inl (x2))], [.inl (r4.1)], hp r4.2, 0, 0)
            exact T_ret rfl
    · intro x0 x1 x2 σ
      unfold f_X3_valueOnTheWayHome_L2
      refine T_go (S' := (2, [(2, .inl ((x2 + (1 : Int32)))), (0, .inr (.inr (x0))), (1, .inl (x1))], [], hp σ, 0, 0)) 2 rfl ?_
      refine T_loc (ls' := [(0, .inr (.inr (x0))), (1, .inl (x1)), (2, .inl ((x2 + (1 : Int32))))]) [1, 2, 0] rfl ?_
      exact (ih.1) x0 x1 (x2 + (1 : Int32)) σ
def f_X3_valueOnTheWayHome (x0 : Nat) (x1 : Int32) (σ : eMem) : Option (Int32 × eMem) :=
  f_X3_valueOnTheWayHome_L2 1000000 (.inl (x0, x1, (0 : Int32))) σ
set_option maxHeartbeats 4000000 in
set_option maxRecDepth 20000 in
theorem s_X3_valueOnTheWayHome (x0 : Nat) (x1 : Int32) (σ : eMem) : ∀ r, f_X3_valueOnTheWayHome x0 x1 σ = some r → Ew false 2 45 [.inr (.inr (x0)), .inl (x1)] (hp σ) (cN iI r) := by
  refine T_meth (md := m_X3_valueOnTheWayHome) (d0 := 1) (cv := (cN iI)) rfl (lb rfl) (lb rfl) ?_
  unfold f_X3_valueOnTheWayHome
  show Snd false none _ _ _ _ (0, [(0, .inr (.inr (x0))), (1, .inl (x1))], [], hp σ, 0, 0)
  refine T_go (S' := (2, [(2, .inl ((0 : Int32))), (0, .inr (.inr (x0))), (1, .inl (x1))], [], hp σ, 0, 0)) 2 rfl ?_
  refine T_loc (ls' := [(0, .inr (.inr (x0))), (1, .inl (x1)), (2, .inl ((0 : Int32)))]) [1, 2, 0] rfl ?_
  exact (s_X3_valueOnTheWayHome_L2 1000000).1 x0 x1 (0 : Int32) σ
def f_X8_isUsed_19 (s0 : Int32) (σ : eMem) : Option (Int32 × eMem) :=
  if eB s0 = true then some (s0, σ) else none
set_option maxHeartbeats 4000000 in
set_option maxRecDepth 20000 in
theorem s_X8_isUsed_19 (s0 : Int32) (σ : eMem) : Snd false none 0 m_X8_isUsed (f_X8_isUsed_19 s0 σ) (cN iI) (19, [], [.inl (s0)], hp σ, 0, 0) := by
  unfold f_X8_isUsed_19
  exact T_chkr rfl
def f_X8_isUsed (x0 : Nat) (x1 : Int32) (σ : eMem) : Option (Int32 × eMem) :=
  if ¬ (4 : Int32) = 0 then
    if (KH x0).1 = 7 then
      if ¬ (4 : Int32) = 0 then
        if (KH (RH x0 4)).1 = 11 ∧ eix (x1 / (4 : Int32)) (KH (RH x0 4)).2 = true then
          if (σ.1 (RH x0 4) (x1 / (4 : Int32)).toNatClampNeg) ≤ (x1 - x1 / (4 : Int32) * (4 : Int32)) then
            f_X8_isUsed_19 (0 : Int32) σ
          else
            f_X8_isUsed_19 (1 : Int32) σ
        else none
      else none
    else none
  else none
set_option maxHeartbeats 4000000 in
set_option maxRecDepth 20000 in
theorem s_X8_isUsed (x0 : Nat) (x1 : Int32) (σ : eMem) : ∀ r, f_X8_isUsed x0 x1 σ = some r → Ew false 1 77 [.inr (.inr (x0)), .inl (x1)] (hp σ) (cN iI r) := by
  refine T_meth (md := m_X8_isUsed) (d0 := 0) (cv := (cN iI)) rfl (lb rfl) (lb rfl) ?_
  unfold f_X8_isUsed
  show Snd false none _ _ _ _ (0, [(0, .inr (.inr (x0))), (1, .inl (x1))], [], hp σ, 0, 0)
  refine T_go (S' := (2, [(0, .inr (.inr (x0))), (1, .inl (x1))], [.inl ((4 : Int32)), .inl (x1)], hp σ, 0, 0)) 2 rfl ?_
  refine T_irem rfl (fun _ => ?_)
  refine T_go (S' := (4, [(0, .inr (.inr (x0))), (1, .inl (x1))], [.inr (.inr (x0)), .inl ((x1 - x1 / (4 : Int32) * (4 : Int32)))], hp σ, 0, 0)) 1 rfl ?_
  refine T_getR rfl (fun _ => ?_)
  refine T_go (S' := (9, [(0, .inr (.inr (x0))), (1, .inl (x1))], [.inl ((4 : Int32)), .inl (x1), .inr (.inr ((RH x0 4))), .inl ((x1 - x1 / (4 : Int32) * (4 : Int32)))], hp σ, 0, 0)) 2 rfl ?_
  refine T_idiv rfl (fun _ => ?_)
  refine T_iald rfl (fun _ => ?_)
  refine T_icmp_ge 18 rfl rfl (fun _ => ?_) (fun _ => ?_)
  · refine T_go (S' := (19, [(0, .inr (.inr (x0))), (1, .inl (x1))], [.inl ((0 : Int32))], hp σ, 0, 0)) 1 rfl ?_
    refine T_loc (ls' := []) [] rfl ?_
    exact s_X8_isUsed_19 (0 : Int32) σ
  · refine T_go (S' := (19, [(0, .inr (.inr (x0))), (1, .inl (x1))], [.inl ((1 : Int32))], hp σ, 0, 0)) 2 rfl ?_
    refine T_loc (ls' := []) [] rfl ?_
    exact s_X8_isUsed_19 (1 : Int32) σ
def f_X5_firstOrder_L4 : Nat → (Nat × Nat × Int32 × Int32 ⊕ (Nat × Nat × Int32 × Int32)) → eMem → Option (Int32 × eMem)
  | 0, _, _ => none
  | n + 1, .inl (x0, x1, x2, x3), σ =>
    if (12 : Int32) ≤ x3 then
      some (x2, σ)
    else
      if (KH x1).1 = 7 then
        Option.bind (f_X8_isUsed x1 x3 σ) (fun r1 =>
          if r1.1 = (0 : Int32) then
            f_X5_firstOrder_L4 n (.inr ((x0, x1, x2, x3))) r1.2
          else
            if (6 : Int32) ≤ x2 then
              f_X5_firstOrder_L4 n (.inr ((x0, x1, x2, x3))) r1.2
            else
              if (KH x0).1 = 4 then
                if (KH (RH x0 0)).1 = 11 ∧ eix x2 (KH (RH x0 0)).2 = true then eLet ((eup r1.2.1 (RH x0 0) x2.toNatClampNeg x3, r1.2.2) : eMem) (fun σ2 =>
                  f_X5_firstOrder_L4 n (.inr ((x0, x1, (x2 + (1 : Int32)), x3))) σ2
                  ) else none
              else none
          )
      else none
  | n + 1, .inr ((x0, x1, x2, x3)), σ =>
    f_X5_firstOrder_L4 n (.inl (x0, x1, x2, (x3 + (1 : Int32)))) σ
set_option maxHeartbeats 4000000 in
set_option maxRecDepth 20000 in
theorem s_X5_firstOrder_L4 : ∀ (n : Nat), (∀ (x0 : Nat) (x1 : Nat) (x2 : Int32) (x3 : Int32) (σ : eMem), Snd false none 1 m_X5_firstOrder (f_X5_firstOrder_L4 n (.inl (x0, x1, x2, x3)) σ) (cN iI) (4, [(0, .inr (.inr (x0))), (1, .inr (.inr (x1))), (2, .inl (x2)), (3, .inl (x3))], [], hp σ, 0, 0)) ∧ (∀ (x0 : Nat) (x1 : Nat) (x2 : Int32) (x3 : Int32) (σ : eMem), Snd false none 1 m_X5_firstOrder (f_X5_firstOrder_L4 n (.inr ((x0, x1, x2, x3))) σ) (cN iI) (34, [(0, .inr (.inr (x0))), (1, .inr (.inr (x1))), (2, .inl (x2)), (3, .inl (x3))], [], hp σ, 0, 0)) := by
  intro n
  induction n with
  | zero => exact ⟨fun _ _ _ _ _ => T_none, fun _ _ _ _ _ => T_none⟩
  | succ n ih =>
    refine ⟨?_, ?_⟩
    · intro x0 x1 x2 x3 σ
      unfold f_X5_firstOrder_L4
      refine T_go (S' := (7, [(0, .inr (.inr (x0))), (1, .inr (.inr (x1))), (2, .inl (x2)), (3, .inl (x3))], [.inl ((12 : Int32)), .inl (x3)], hp σ, 0, 0)) 2 rfl ?_
      refine T_icmp_ge 40 rfl rfl (fun _ => ?_) (fun _ => ?_)
      · refine T_go (S' := (41, [(0, .inr (.inr (x0))), (1, .inr (.inr (x1))), (2, .inl (x2)), (3, .inl (x3))], [.inl (x2)], hp σ, 0, 0)) 1 rfl ?_
        exact T_ret rfl
      · refine T_go (S' := (12, [(0, .inr (.inr (x0))), (1, .inr (.inr (x1))), (2, .inl (x2)), (3, .inl (x3))], [.inl (x3), .inr (.inr (x1))], hp σ, 0, 0)) 2 rfl ?_
        refine T_cv (i := iI) (as := [.inr (.inr (x1)), .inl (x3)]) (rest := []) (st := [.inl (x3), .inr (.inr (x1))]) rfl rfl rfl ⟨lb rfl, lb rfl, lb rfl, lb rfl⟩ (fun _ h => Ew_le (lb rfl) (s_X8_isUsed x1 x3 σ _ h)) (fun _ r1 => ?_)
        show Snd false none _ _ _ (cN iI) (15, [(0, .inr (.inr (x0))), (1, .inr (.inr (x1))), (2, .inl (x2)), (3, .inl (x3))], [.inl (r1.1)], hp r1.2, 0, 0)
        refine T_if_eq 34 rfl rfl (fun _ => ?_) (fun _ => ?_)
        · refine T_loc (ls' := [(0, .inr (.inr (x0))), (1, .inr (.inr (x1))), (2, .inl (x2)), (3, .inl (x3))]) [0, 1, 2, 3] rfl ?_
          exact (ih.2) x0 x1 x2 x3 r1.2
        · refine T_go (S' := (21, [(0, .inr (.inr (x0))), (1, .inr (.inr (x1))), (2, .inl (x2)), (3, .inl (x3))], [.inl ((6 : Int32)), .inl (x2)], hp r1.2, 0, 0)) 2 rfl ?_
          refine T_icmp_ge 34 rfl rfl (fun _ => ?_) (fun _ => ?_)
          · refine T_loc (ls' := [(0, .inr (.inr (x0))), (1, .inr (.inr (x1))), (2, .inl (x2)), (3, .inl (x3))]) [0, 1, 2, 3] rfl ?_
            exact (ih.2) x0 x1 x2 x3 r1.2
          · refine T_go (S' := (25, [(0, .inr (.inr (x0))), (1, .inr (.inr (x1))), (2, .inl (x2)), (3, .inl (x3))], [.inr (.inr (x0))], hp r1.2, 0, 0)) 1 rfl ?_
            refine T_getR rfl (fun _ => ?_)
            refine T_go (S' := (30, [(0, .inr (.inr (x0))), (1, .inr (.inr (x1))), (2, .inl (x2)), (3, .inl (x3))], [.inl (x3), .inl (x2), .inr (.inr ((RH x0 0)))], hp r1.2, 0, 0)) 2 rfl ?_
            refine T_iast rfl (fun _ => ?_)
            refine T_let (Sf := fun σ2 => (31, [(0, .inr (.inr (x0))), (1, .inr (.inr (x1))), (2, .inl (x2)), (3, .inl (x3))], [], hp σ2, 0, 0)) (fun σ2 => ?_)
            refine T_go (S' := (34, [(2, .inl ((x2 + (1 : Int32)))), (0, .inr (.inr (x0))), (1, .inr (.inr (x1))), (3, .inl (x3))], [], hp σ2, 0, 0)) 1 rfl ?_
            refine T_loc (ls' := [(0, .inr (.inr (x0))), (1, .inr (.inr (x1))), (2, .inl ((x2 + (1 : Int32)))), (3, .inl (x3))]) [1, 2, 0, 3] rfl ?_
            exact (ih.2) x0 x1 (x2 + (1 : Int32)) x3 σ2
    · intro x0 x1 x2 x3 σ
      unfold f_X5_firstOrder_L4
      refine T_go (S' := (4, [(3, .inl ((x3 + (1 : Int32)))), (0, .inr (.inr (x0))), (1, .inr (.inr (x1))), (2, .inl (x2))], [], hp σ, 0, 0)) 2 rfl ?_
      refine T_loc (ls' := [(0, .inr (.inr (x0))), (1, .inr (.inr (x1))), (2, .inl (x2)), (3, .inl ((x3 + (1 : Int32))))]) [1, 2, 3, 0] rfl ?_
      exact (ih.1) x0 x1 x2 (x3 + (1 : Int32)) σ
def f_X5_firstOrder (x0 : Nat) (x1 : Nat) (σ : eMem) : Option (Int32 × eMem) :=
  f_X5_firstOrder_L4 1000000 (.inl (x0, x1, (0 : Int32), (0 : Int32))) σ
set_option maxHeartbeats 4000000 in
set_option maxRecDepth 20000 in
theorem s_X5_firstOrder (x0 : Nat) (x1 : Nat) (σ : eMem) : ∀ r, f_X5_firstOrder x0 x1 σ = some r → Ew false 2 53 [.inr (.inr (x0)), .inr (.inr (x1))] (hp σ) (cN iI r) := by
  refine T_meth (md := m_X5_firstOrder) (d0 := 1) (cv := (cN iI)) rfl (lb rfl) (lb rfl) ?_
  unfold f_X5_firstOrder
  show Snd false none _ _ _ _ (0, [(0, .inr (.inr (x0))), (1, .inr (.inr (x1)))], [], hp σ, 0, 0)
  refine T_go (S' := (4, [(3, .inl ((0 : Int32))), (2, .inl ((0 : Int32))), (0, .inr (.inr (x0))), (1, .inr (.inr (x1)))], [], hp σ, 0, 0)) 4 rfl ?_
  refine T_loc (ls' := [(0, .inr (.inr (x0))), (1, .inr (.inr (x1))), (2, .inl ((0 : Int32))), (3, .inl ((0 : Int32)))]) [2, 3, 1, 0] rfl ?_
  exact (s_X5_firstOrder_L4 1000000).1 x0 x1 (0 : Int32) (0 : Int32) σ
def f_X5_swap (x0 : Nat) (x1 : Int32) (x2 : Int32) (σ : eMem) : Option (Unit × eMem) :=
  if (KH x0).1 = 4 then
    if (KH (RH x0 0)).1 = 11 ∧ eix x1 (KH (RH x0 0)).2 = true then
      eLet ((σ.1 (RH x0 0) x1.toNatClampNeg) : Int32) (fun v1 =>
        if (KH x0).1 = 4 then
          if (KH x0).1 = 4 then
            if (KH (RH x0 0)).1 = 11 ∧ eix x2 (KH (RH x0 0)).2 = true then
              if (KH (RH x0 0)).1 = 11 ∧ eix x1 (KH (RH x0 0)).2 = true then eLet ((eup σ.1 (RH x0 0) x1.toNatClampNeg (σ.1 (RH x0 0) x2.toNatClampNeg), σ.2) : eMem) (fun σ2 =>
                if (KH x0).1 = 4 then
                  if (KH (RH x0 0)).1 = 11 ∧ eix x2 (KH (RH x0 0)).2 = true then eLet ((eup σ2.1 (RH x0 0) x2.toNatClampNeg v1, σ2.2) : eMem) (fun σ3 =>
                    some ((), σ3)
                    ) else none
                else none
                ) else none
            else none
          else none
        else none
        )
    else none
  else none
set_option maxHeartbeats 4000000 in
set_option maxRecDepth 20000 in
theorem s_X5_swap (x0 : Nat) (x1 : Int32) (x2 : Int32) (σ : eMem) : ∀ r, f_X5_swap x0 x1 x2 σ = some r → Ew false 1 55 [.inr (.inr (x0)), .inl (x1), .inl (x2)] (hp σ) (cN iU r) := by
  refine T_meth (md := m_X5_swap) (d0 := 0) (cv := (cN iU)) rfl (lb rfl) (lb rfl) ?_
  unfold f_X5_swap
  show Snd false none _ _ _ _ (0, [(0, .inr (.inr (x0))), (1, .inl (x1)), (2, .inl (x2))], [], hp σ, 0, 0)
  refine T_go (S' := (1, [(0, .inr (.inr (x0))), (1, .inl (x1)), (2, .inl (x2))], [.inr (.inr (x0))], hp σ, 0, 0)) 1 rfl ?_
  refine T_getR rfl (fun _ => ?_)
  refine T_go (S' := (5, [(0, .inr (.inr (x0))), (1, .inl (x1)), (2, .inl (x2))], [.inl (x1), .inr (.inr ((RH x0 0)))], hp σ, 0, 0)) 1 rfl ?_
  refine T_iald rfl (fun _ => ?_)
  refine T_go (S' := (7, [(3, .inl ((σ.1 (RH x0 0) x1.toNatClampNeg))), (0, .inr (.inr (x0))), (1, .inl (x1)), (2, .inl (x2))], [], hp σ, 0, 0)) 1 rfl ?_
  refine T_let (Sf := fun v1 => (7, [(3, .inl (v1)), (0, .inr (.inr (x0))), (1, .inl (x1)), (2, .inl (x2))], [], hp σ, 0, 0)) (fun v1 => ?_)
  refine T_go (S' := (8, [(3, .inl (v1)), (0, .inr (.inr (x0))), (1, .inl (x1)), (2, .inl (x2))], [.inr (.inr (x0))], hp σ, 0, 0)) 1 rfl ?_
  refine T_getR rfl (fun _ => ?_)
  refine T_go (S' := (13, [(3, .inl (v1)), (0, .inr (.inr (x0))), (1, .inl (x1)), (2, .inl (x2))], [.inr (.inr (x0)), .inl (x1), .inr (.inr ((RH x0 0)))], hp σ, 0, 0)) 2 rfl ?_
  refine T_getR rfl (fun _ => ?_)
  refine T_go (S' := (17, [(3, .inl (v1)), (0, .inr (.inr (x0))), (1, .inl (x1)), (2, .inl (x2))], [.inl (x2), .inr (.inr ((RH x0 0))), .inl (x1), .inr (.inr ((RH x0 0)))], hp σ, 0, 0)) 1 rfl ?_
  refine T_iald rfl (fun _ => ?_)
  refine T_iast rfl (fun _ => ?_)
  refine T_let (Sf := fun σ2 => (19, [(3, .inl (v1)), (0, .inr (.inr (x0))), (1, .inl (x1)), (2, .inl (x2))], [], hp σ2, 0, 0)) (fun σ2 => ?_)
  refine T_go (S' := (20, [(3, .inl (v1)), (0, .inr (.inr (x0))), (1, .inl (x1)), (2, .inl (x2))], [.inr (.inr (x0))], hp σ2, 0, 0)) 1 rfl ?_
  refine T_getR rfl (fun _ => ?_)
  refine T_go (S' := (25, [(3, .inl (v1)), (0, .inr (.inr (x0))), (1, .inl (x1)), (2, .inl (x2))], [.inl (v1), .inl (x2), .inr (.inr ((RH x0 0)))], hp σ2, 0, 0)) 2 rfl ?_
  refine T_iast rfl (fun _ => ?_)
  refine T_let (Sf := fun σ3 => (26, [(3, .inl (v1)), (0, .inr (.inr (x0))), (1, .inl (x1)), (2, .inl (x2))], [], hp σ3, 0, 0)) (fun σ3 => ?_)
  exact T_ret rfl
