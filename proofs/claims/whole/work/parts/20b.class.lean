/-! what the methods do -/
def f_X10_storedTo_17 (s0 : Int32) (σ : eMem) : Option (Int32 × eMem) :=
  some (s0, σ)
set_option maxHeartbeats 4000000 in
set_option maxRecDepth 20000 in
theorem s_X10_storedTo_17 (s0 : Int32) (σ : eMem) : Snd false none 0 m_X10_storedTo (f_X10_storedTo_17 s0 σ) (cN iI) (17, [], [.inl (s0)], hp σ, 0, 0) := by
  unfold f_X10_storedTo_17
  exact T_ret rfl
def f_X10_storedTo (x0 : Nat) (x1 : Int32) (σ : eMem) : Option (Int32 × eMem) :=
  if (KH x0).1 = 8 then
    if (σ.1 x0 0) = (0 : Int32) then
      f_X10_storedTo_17 (-1 : Int32) σ
    else
      if (KH x0).1 = 8 then
        if (KH (RH x0 6)).1 = 11 ∧ eix x1 (KH (RH x0 6)).2 = true then
          f_X10_storedTo_17 (σ.1 (RH x0 6) x1.toNatClampNeg) σ
        else none
      else none
  else none
set_option maxHeartbeats 4000000 in
set_option maxRecDepth 20000 in
theorem s_X10_storedTo (x0 : Nat) (x1 : Int32) (σ : eMem) : ∀ r, f_X10_storedTo x0 x1 σ = some r → Ew false 1 95 [.inr (.inr (x0)), .inl (x1)] (hp σ) (cN iI r) := by
  refine T_meth (md := m_X10_storedTo) (d0 := 0) (cv := (cN iI)) rfl (lb rfl) (lb rfl) ?_
  unfold f_X10_storedTo
  show Snd false none _ _ _ _ (0, [(0, .inr (.inr (x0))), (1, .inl (x1))], [], hp σ, 0, 0)
  refine T_go (S' := (1, [(0, .inr (.inr (x0))), (1, .inl (x1))], [.inr (.inr (x0))], hp σ, 0, 0)) 1 rfl ?_
  refine T_getI rfl (fun _ => ?_)
  refine T_if_eq 16 rfl rfl (fun _ => ?_) (fun _ => ?_)
  · refine T_go (S' := (17, [(0, .inr (.inr (x0))), (1, .inl (x1))], [.inl ((-1 : Int32))], hp σ, 0, 0)) 1 rfl ?_
    refine T_loc (ls' := []) [] rfl ?_
    exact s_X10_storedTo_17 (-1 : Int32) σ
  · refine T_go (S' := (8, [(0, .inr (.inr (x0))), (1, .inl (x1))], [.inr (.inr (x0))], hp σ, 0, 0)) 1 rfl ?_
    refine T_getR rfl (fun _ => ?_)
    refine T_go (S' := (12, [(0, .inr (.inr (x0))), (1, .inl (x1))], [.inl (x1), .inr (.inr ((RH x0 6)))], hp σ, 0, 0)) 1 rfl ?_
    refine T_iald rfl (fun _ => ?_)
    refine T_go (S' := (17, [(0, .inr (.inr (x0))), (1, .inl (x1))], [.inl ((σ.1 (RH x0 6) x1.toNatClampNeg))], hp σ, 0, 0)) 1 rfl ?_
    refine T_loc (ls' := []) [] rfl ?_
    exact s_X10_storedTo_17 (σ.1 (RH x0 6) x1.toNatClampNeg) σ
def f_X0_read_84 (x3 : Nat) (σ : eMem) : Option (Int32 × eMem) :=
  if (KH x3).1 = 6 then
    some ((σ.1 x3 2), σ)
  else none
set_option maxHeartbeats 4000000 in
set_option maxRecDepth 20000 in
theorem s_X0_read_84 (x3 : Nat) (σ : eMem) : Snd false none 5 m_X0_read (f_X0_read_84 x3 σ) (cN iI) (84, [(3, .inr (.inr (x3)))], [], hp σ, 0, 0) := by
  unfold f_X0_read_84
  refine T_go (S' := (85, [(3, .inr (.inr (x3)))], [.inr (.inr (x3))], hp σ, 0, 0)) 1 rfl ?_
  refine T_getI rfl (fun _ => ?_)
  exact T_ret rfl
def f_X0_read_117  (σ : eMem) : Option (Int32 × eMem) :=
  some ((-1 : Int32), σ)
set_option maxHeartbeats 4000000 in
set_option maxRecDepth 20000 in
theorem s_X0_read_117  (σ : eMem) : Snd false none 5 m_X0_read (f_X0_read_117 σ) (cN iI) (117, [], [], hp σ, 0, 0) := by
  unfold f_X0_read_117
  refine T_go (S' := (118, [], [.inl ((-1 : Int32))], hp σ, 0, 0)) 1 rfl ?_
  exact T_ret rfl
def f_X0_read_89 (x0 : Nat) (x1 : Int32) (σ : eMem) : Option (Int32 × eMem) :=
  if (KH x0).1 = 0 then
    Option.bind (f_X0_ask x0 x1 (0 : Int32) σ) (fun r1 =>
      if r1.1 = (0 : Int32) then
        f_X0_read_117  r1.2
      else
        if (KH x0).1 = 0 then
          if (KH (RH x0 8)).1 = 8 then
            if ¬ (r1.2.1 (RH x0 8) 0) = (0 : Int32) then
              f_X0_read_117  r1.2
            else
              if (KH x0).1 = 0 then
                Option.bind (f_X0_learnStride x0 x1 r1.2) (fun r2 =>
                  f_X0_read_117  r2.2
                  )
              else none
          else none
        else none
      )
  else none
set_option maxHeartbeats 4000000 in
set_option maxRecDepth 20000 in
theorem s_X0_read_89 (x0 : Nat) (x1 : Int32) (σ : eMem) : Snd false none 5 m_X0_read (f_X0_read_89 x0 x1 σ) (cN iI) (89, [(0, .inr (.inr (x0))), (1, .inl (x1))], [], hp σ, 0, 0) := by
  unfold f_X0_read_89
  refine T_go (S' := (92, [(0, .inr (.inr (x0))), (1, .inl (x1))], [.inl ((0 : Int32)), .inl (x1), .inr (.inr (x0))], hp σ, 0, 0)) 3 rfl ?_
  refine T_cv (i := iI) (as := [.inr (.inr (x0)), .inl (x1), .inl ((0 : Int32))]) (rest := []) (st := [.inl ((0 : Int32)), .inl (x1), .inr (.inr (x0))]) rfl rfl rfl ⟨lb rfl, lb rfl, lb rfl, lb rfl⟩ (fun _ h => Ew_le (lb rfl) (s_X0_ask x0 x1 (0 : Int32) σ _ h)) (fun _ r1 => ?_)
  show Snd false none _ _ _ (cN iI) (95, [(0, .inr (.inr (x0))), (1, .inl (x1))], [.inl (r1.1)], hp r1.2, 0, 0)
  refine T_go (S' := (99, [(4, .inl (r1.1)), (0, .inr (.inr (x0))), (1, .inl (x1))], [.inl (r1.1)], hp r1.2, 0, 0)) 2 rfl ?_
  refine T_if_eq 117 rfl rfl (fun _ => ?_) (fun _ => ?_)
  · refine T_loc (ls' := []) [] rfl ?_
    exact s_X0_read_117  r1.2
  · refine T_go (S' := (103, [(4, .inl (r1.1)), (0, .inr (.inr (x0))), (1, .inl (x1))], [.inr (.inr (x0))], hp r1.2, 0, 0)) 1 rfl ?_
    refine T_getR rfl (fun _ => ?_)
    refine T_getI rfl (fun _ => ?_)
    refine T_if_ne 117 rfl rfl (fun _ => ?_) (fun _ => ?_)
    · refine T_loc (ls' := []) [] rfl ?_
      exact s_X0_read_117  r1.2
    · refine T_go (S' := (114, [(4, .inl (r1.1)), (0, .inr (.inr (x0))), (1, .inl (x1))], [.inl (x1), .inr (.inr (x0))], hp r1.2, 0, 0)) 2 rfl ?_
      refine T_cv (i := iU) (as := [.inr (.inr (x0)), .inl (x1)]) (rest := []) (st := [.inl (x1), .inr (.inr (x0))]) rfl rfl rfl ⟨lb rfl, lb rfl, lb rfl, lb rfl⟩ (fun _ h => Ew_le (lb rfl) (s_X0_learnStride x0 x1 r1.2 _ h)) (fun _ r2 => ?_)
      show Snd false none _ _ _ (cN iI) (117, [(4, .inl (r1.1)), (0, .inr (.inr (x0))), (1, .inl (x1))], [], hp r2.2, 0, 0)
      refine T_loc (ls' := []) [] rfl ?_
      exact s_X0_read_117  r2.2
def f_X0_read_26 (x0 : Nat) (x1 : Int32) (s0 : Int32) (σ : eMem) : Option (Int32 × eMem) :=
  if s0 = (-1 : Int32) then
    if (KH x0).1 = 0 then
      Option.bind (f_X0_placeOf x0 x1 σ) (fun r1 =>
        if r1.1 = 0 then
          f_X0_read_89 x0 x1 r1.2
        else
          if (KH r1.1).1 = 6 then
            Option.bind (f_X7_hasValue r1.1 r1.2) (fun r2 =>
              if r2.1 = (0 : Int32) then
                f_X0_read_89 x0 x1 r2.2
              else
                if (KH x0).1 = 0 then
                  if (KH (RH x0 2)).1 = 11 ∧ eix (0 : Int32) (KH (RH x0 2)).2 = true then
                    if (KH (RH x0 2)).1 = 11 ∧ eix (0 : Int32) (KH (RH x0 2)).2 = true then eLet ((eup r2.2.1 (RH x0 2) (0 : Int32).toNatClampNeg ((r2.2.1 (RH x0 2) (0 : Int32).toNatClampNeg) + (1 : Int32)), r2.2.2) : eMem) (fun σ3 =>
                      if (KH x0).1 = 0 then
                        Option.bind (f_X0_use x0 r1.1 σ3) (fun r4 =>
                          if (KH x0).1 = 0 then
                            if (KH (RH x0 8)).1 = 8 then
                              if (r4.2.1 (RH x0 8) 0) = (0 : Int32) then
                                f_X0_read_84 r1.1 r4.2
                              else
                                if (KH x0).1 = 0 then
                                  if (KH (RH x0 8)).1 = 8 then
                                    Option.bind (f_X10_include (RH x0 8) x1 r4.2) (fun r5 =>
                                      f_X0_read_84 r1.1 r5.2
                                      )
                                  else none
                                else none
                            else none
                          else none
                          )
                      else none
                      ) else none
                  else none
                else none
              )
          else none
        )
    else none
  else
    some (s0, σ)
set_option maxHeartbeats 4000000 in
set_option maxRecDepth 20000 in
theorem s_X0_read_26 (x0 : Nat) (x1 : Int32) (s0 : Int32) (σ : eMem) : Snd false none 5 m_X0_read (f_X0_read_26 x0 x1 s0 σ) (cN iI) (26, [(0, .inr (.inr (x0))), (1, .inl (x1))], [.inl (s0)], hp σ, 0, 0) := by
  unfold f_X0_read_26
  refine T_go (S' := (29, [(2, .inl (s0)), (0, .inr (.inr (x0))), (1, .inl (x1))], [.inl ((-1 : Int32)), .inl (s0)], hp σ, 0, 0)) 3 rfl ?_
  refine T_icmp_eq 34 rfl rfl (fun _ => ?_) (fun _ => ?_)
  · refine T_go (S' := (36, [(2, .inl (s0)), (0, .inr (.inr (x0))), (1, .inl (x1))], [.inl (x1), .inr (.inr (x0))], hp σ, 0, 0)) 2 rfl ?_
    refine T_cv (i := iR) (as := [.inr (.inr (x0)), .inl (x1)]) (rest := []) (st := [.inl (x1), .inr (.inr (x0))]) rfl rfl rfl ⟨lb rfl, lb rfl, lb rfl, lb rfl⟩ (fun _ h => Ew_le (lb rfl) (s_X0_placeOf x0 x1 σ _ h)) (fun _ r1 => ?_)
    show Snd false none _ _ _ (cN iI) (39, [(2, .inl (s0)), (0, .inr (.inr (x0))), (1, .inl (x1))], [.inr (.inr (r1.1))], hp r1.2, 0, 0)
    refine T_go (S' := (41, [(3, .inr (.inr (r1.1))), (2, .inl (s0)), (0, .inr (.inr (x0))), (1, .inl (x1))], [.inr (.inr (r1.1))], hp r1.2, 0, 0)) 2 rfl ?_
    refine T_ifnull 89 rfl rfl (fun _ => ?_) (fun _ => ?_)
    · refine T_loc (ls' := [(0, .inr (.inr (x0))), (1, .inl (x1))]) [2, 3] rfl ?_
      exact s_X0_read_89 x0 x1 r1.2
    · refine T_go (S' := (45, [(3, .inr (.inr (r1.1))), (2, .inl (s0)), (0, .inr (.inr (x0))), (1, .inl (x1))], [.inr (.inr (r1.1))], hp r1.2, 0, 0)) 1 rfl ?_
      refine T_cv (i := iI) (as := [.inr (.inr (r1.1))]) (rest := []) (st := [.inr (.inr (r1.1))]) rfl rfl rfl ⟨lb rfl, lb rfl, lb rfl, lb rfl⟩ (fun _ h => Ew_le (lb rfl) (s_X7_hasValue r1.1 r1.2 _ h)) (fun _ r2 => ?_)
      show Snd false none _ _ _ (cN iI) (48, [(3, .inr (.inr (r1.1))), (2, .inl (s0)), (0, .inr (.inr (x0))), (1, .inl (x1))], [.inl (r2.1)], hp r2.2, 0, 0)
      refine T_if_eq 89 rfl rfl (fun _ => ?_) (fun _ => ?_)
      · refine T_loc (ls' := [(0, .inr (.inr (x0))), (1, .inl (x1))]) [2, 3] rfl ?_
        exact s_X0_read_89 x0 x1 r2.2
      · refine T_go (S' := (52, [(3, .inr (.inr (r1.1))), (2, .inl (s0)), (0, .inr (.inr (x0))), (1, .inl (x1))], [.inr (.inr (x0))], hp r2.2, 0, 0)) 1 rfl ?_
        refine T_getR rfl (fun _ => ?_)
        refine T_go (S' := (57, [(3, .inr (.inr (r1.1))), (2, .inl (s0)), (0, .inr (.inr (x0))), (1, .inl (x1))], [.inl ((0 : Int32)), .inr (.inr ((RH x0 2))), .inl ((0 : Int32)), .inr (.inr ((RH x0 2)))], hp r2.2, 0, 0)) 2 rfl ?_
        refine T_iald rfl (fun _ => ?_)
        refine T_go (S' := (60, [(3, .inr (.inr (r1.1))), (2, .inl (s0)), (0, .inr (.inr (x0))), (1, .inl (x1))], [.inl (((r2.2.1 (RH x0 2) (0 : Int32).toNatClampNeg) + (1 : Int32))), .inl ((0 : Int32)), .inr (.inr ((RH x0 2)))], hp r2.2, 0, 0)) 2 rfl ?_
        refine T_iast rfl (fun _ => ?_)
        refine T_let (Sf := fun σ3 => (61, [(3, .inr (.inr (r1.1))), (2, .inl (s0)), (0, .inr (.inr (x0))), (1, .inl (x1))], [], hp σ3, 0, 0)) (fun σ3 => ?_)
        refine T_go (S' := (63, [(3, .inr (.inr (r1.1))), (2, .inl (s0)), (0, .inr (.inr (x0))), (1, .inl (x1))], [.inr (.inr (r1.1)), .inr (.inr (x0))], hp σ3, 0, 0)) 2 rfl ?_
        refine T_cv (i := iU) (as := [.inr (.inr (x0)), .inr (.inr (r1.1))]) (rest := []) (st := [.inr (.inr (r1.1)), .inr (.inr (x0))]) rfl rfl rfl ⟨lb rfl, lb rfl, lb rfl, lb rfl⟩ (fun _ h => Ew_le (lb rfl) (s_X0_use x0 r1.1 σ3 _ h)) (fun _ r4 => ?_)
        show Snd false none _ _ _ (cN iI) (66, [(3, .inr (.inr (r1.1))), (2, .inl (s0)), (0, .inr (.inr (x0))), (1, .inl (x1))], [], hp r4.2, 0, 0)
        refine T_go (S' := (67, [(3, .inr (.inr (r1.1))), (2, .inl (s0)), (0, .inr (.inr (x0))), (1, .inl (x1))], [.inr (.inr (x0))], hp r4.2, 0, 0)) 1 rfl ?_
        refine T_getR rfl (fun _ => ?_)
        refine T_getI rfl (fun _ => ?_)
        refine T_if_eq 84 rfl rfl (fun _ => ?_) (fun _ => ?_)
        · refine T_loc (ls' := [(3, .inr (.inr (r1.1)))]) [0] rfl ?_
          exact s_X0_read_84 r1.1 r4.2
        · refine T_go (S' := (77, [(3, .inr (.inr (r1.1))), (2, .inl (s0)), (0, .inr (.inr (x0))), (1, .inl (x1))], [.inr (.inr (x0))], hp r4.2, 0, 0)) 1 rfl ?_
          refine T_getR rfl (fun _ => ?_)
          refine T_go (S' := (81, [(3, .inr (.inr (r1.1))), (2, .inl (s0)), (0, .inr (.inr (x0))), (1, .inl (x1))], [.inl (x1), .inr (.inr ((RH x0 8)))], hp r4.2, 0, 0)) 1 rfl ?_
          refine T_cv (i := iU) (as := [.inr (.inr ((RH x0 8))), .inl (x1)]) (rest := []) (st := [.inl (x1), .inr (.inr ((RH x0 8)))]) rfl rfl rfl ⟨lb rfl, lb rfl, lb rfl, lb rfl⟩ (fun _ h => Ew_le (lb rfl) (s_X10_include (RH x0 8) x1 r4.2 _ h)) (fun _ r5 => ?_)
          show Snd false none _ _ _ (cN iI) (84, [(3, .inr (.inr (r1.1))), (2, .inl (s0)), (0, .inr (.inr (x0))), (1, .inl (x1))], [], hp r5.2, 0, 0)
          refine T_loc (ls' := [(3, .inr (.inr (r1.1)))]) [0] rfl ?_
          exact s_X0_read_84 r1.1 r5.2
  · refine T_go (S' := (33, [(2, .inl (s0)), (0, .inr (.inr (x0))), (1, .inl (x1))], [.inl (s0)], hp σ, 0, 0)) 1 rfl ?_
    exact T_ret rfl
def f_X0_read (x0 : Nat) (x1 : Int32) (σ : eMem) : Option (Int32 × eMem) :=
  if (KH x0).1 = 0 then
    if (KH (RH x0 8)).1 = 8 then
      if (σ.1 (RH x0 8) 0) = (0 : Int32) then
        if (KH x0).1 = 0 then
          Option.bind (f_X0_latestBuffered x0 x1 σ) (fun r1 =>
            f_X0_read_26 x0 x1 r1.1 r1.2
            )
        else none
      else
        if (KH x0).1 = 0 then
          if (KH (RH x0 8)).1 = 8 then
            Option.bind (f_X10_storedTo (RH x0 8) x1 σ) (fun r2 =>
              f_X0_read_26 x0 x1 r2.1 r2.2
              )
          else none
        else none
    else none
  else none
set_option maxHeartbeats 4000000 in
set_option maxRecDepth 20000 in
theorem s_X0_read (x0 : Nat) (x1 : Int32) (σ : eMem) : ∀ r, f_X0_read x0 x1 σ = some r → Ew false 6 1 [.inr (.inr (x0)), .inl (x1)] (hp σ) (cN iI r) := by
  refine T_meth (md := m_X0_read) (d0 := 5) (cv := (cN iI)) rfl (lb rfl) (lb rfl) ?_
  unfold f_X0_read
  show Snd false none _ _ _ _ (0, [(0, .inr (.inr (x0))), (1, .inl (x1))], [], hp σ, 0, 0)
  refine T_go (S' := (1, [(0, .inr (.inr (x0))), (1, .inl (x1))], [.inr (.inr (x0))], hp σ, 0, 0)) 1 rfl ?_
  refine T_getR rfl (fun _ => ?_)
  refine T_getI rfl (fun _ => ?_)
  refine T_if_eq 21 rfl rfl (fun _ => ?_) (fun _ => ?_)
  · refine T_go (S' := (23, [(0, .inr (.inr (x0))), (1, .inl (x1))], [.inl (x1), .inr (.inr (x0))], hp σ, 0, 0)) 2 rfl ?_
    refine T_cv (i := iI) (as := [.inr (.inr (x0)), .inl (x1)]) (rest := []) (st := [.inl (x1), .inr (.inr (x0))]) rfl rfl rfl ⟨lb rfl, lb rfl, lb rfl, lb rfl⟩ (fun _ h => Ew_le (lb rfl) (s_X0_latestBuffered x0 x1 σ _ h)) (fun _ r1 => ?_)
    show Snd false none _ _ _ (cN iI) (26, [(0, .inr (.inr (x0))), (1, .inl (x1))], [.inl (r1.1)], hp r1.2, 0, 0)
    refine T_loc (ls' := [(0, .inr (.inr (x0))), (1, .inl (x1))]) [0, 1] rfl ?_
    exact s_X0_read_26 x0 x1 r1.1 r1.2
  · refine T_go (S' := (11, [(0, .inr (.inr (x0))), (1, .inl (x1))], [.inr (.inr (x0))], hp σ, 0, 0)) 1 rfl ?_
    refine T_getR rfl (fun _ => ?_)
    refine T_go (S' := (15, [(0, .inr (.inr (x0))), (1, .inl (x1))], [.inl (x1), .inr (.inr ((RH x0 8)))], hp σ, 0, 0)) 1 rfl ?_
    refine T_cv (i := iI) (as := [.inr (.inr ((RH x0 8))), .inl (x1)]) (rest := []) (st := [.inl (x1), .inr (.inr ((RH x0 8)))]) rfl rfl rfl ⟨lb rfl, lb rfl, lb rfl, lb rfl⟩ (fun _ h => Ew_le (lb rfl) (s_X10_storedTo (RH x0 8) x1 σ _ h)) (fun _ r2 => ?_)
    show Snd false none _ _ _ (cN iI) (18, [(0, .inr (.inr (x0))), (1, .inl (x1))], [.inl (r2.1)], hp r2.2, 0, 0)
    refine T_go (S' := (26, [(0, .inr (.inr (x0))), (1, .inl (x1))], [.inl (r2.1)], hp r2.2, 0, 0)) 1 rfl ?_
    refine T_loc (ls' := [(0, .inr (.inr (x0))), (1, .inl (x1))]) [0, 1] rfl ?_
    exact s_X0_read_26 x0 x1 r2.1 r2.2
def f_X10_admits_29 (s0 : Int32) (σ : eMem) : Option (Int32 × eMem) :=
  if eB s0 = true then some (s0, σ) else none
set_option maxHeartbeats 4000000 in
set_option maxRecDepth 20000 in
theorem s_X10_admits_29 (s0 : Int32) (σ : eMem) : Snd false none 0 m_X10_admits (f_X10_admits_29 s0 σ) (cN iI) (29, [], [.inl (s0)], hp σ, 0, 0) := by
  unfold f_X10_admits_29
  exact T_chkr rfl
def f_X10_admits_24  (σ : eMem) : Option (Int32 × eMem) :=
  f_X10_admits_29 (1 : Int32) σ
set_option maxHeartbeats 4000000 in
set_option maxRecDepth 20000 in
theorem s_X10_admits_24  (σ : eMem) : Snd false none 0 m_X10_admits (f_X10_admits_24 σ) (cN iI) (24, [], [], hp σ, 0, 0) := by
  unfold f_X10_admits_24
  refine T_go (S' := (29, [], [.inl ((1 : Int32))], hp σ, 0, 0)) 2 rfl ?_
  refine T_loc (ls' := []) [] rfl ?_
  exact s_X10_admits_29 (1 : Int32) σ
def f_X10_admits (x0 : Nat) (x1 : Int32) (σ : eMem) : Option (Int32 × eMem) :=
  if (KH x0).1 = 8 then
    if (σ.1 x0 0) = (0 : Int32) then
      f_X10_admits_24  σ
    else
      if (KH x0).1 = 8 then
        if (KH (RH x0 5)).1 = 13 ∧ eix x1 (KH (RH x0 5)).2 = true then
          if ¬ (σ.1 (RH x0 5) x1.toNatClampNeg) = (0 : Int32) then
            f_X10_admits_24  σ
          else
            if (KH x0).1 = 8 then
              if (4 : Int32) ≤ (σ.1 x0 3) then
                f_X10_admits_29 (0 : Int32) σ
              else
                f_X10_admits_24  σ
            else none
        else none
      else none
  else none
set_option maxHeartbeats 4000000 in
set_option maxRecDepth 20000 in
theorem s_X10_admits (x0 : Nat) (x1 : Int32) (σ : eMem) : ∀ r, f_X10_admits x0 x1 σ = some r → Ew false 1 92 [.inr (.inr (x0)), .inl (x1)] (hp σ) (cN iI r) := by
  refine T_meth (md := m_X10_admits) (d0 := 0) (cv := (cN iI)) rfl (lb rfl) (lb rfl) ?_
  unfold f_X10_admits
  show Snd false none _ _ _ _ (0, [(0, .inr (.inr (x0))), (1, .inl (x1))], [], hp σ, 0, 0)
  refine T_go (S' := (1, [(0, .inr (.inr (x0))), (1, .inl (x1))], [.inr (.inr (x0))], hp σ, 0, 0)) 1 rfl ?_
  refine T_getI rfl (fun _ => ?_)
  refine T_if_eq 24 rfl rfl (fun _ => ?_) (fun _ => ?_)
  · refine T_loc (ls' := []) [] rfl ?_
    exact s_X10_admits_24  σ
  · refine T_go (S' := (8, [(0, .inr (.inr (x0))), (1, .inl (x1))], [.inr (.inr (x0))], hp σ, 0, 0)) 1 rfl ?_
    refine T_getR rfl (fun _ => ?_)
    refine T_go (S' := (12, [(0, .inr (.inr (x0))), (1, .inl (x1))], [.inl (x1), .inr (.inr ((RH x0 5)))], hp σ, 0, 0)) 1 rfl ?_
    refine T_bald rfl (fun _ => ?_)
    refine T_if_ne 24 rfl rfl (fun _ => ?_) (fun _ => ?_)
    · refine T_loc (ls' := []) [] rfl ?_
      exact s_X10_admits_24  σ
    · refine T_go (S' := (17, [(0, .inr (.inr (x0))), (1, .inl (x1))], [.inr (.inr (x0))], hp σ, 0, 0)) 1 rfl ?_
      refine T_getI rfl (fun _ => ?_)
      refine T_go (S' := (21, [(0, .inr (.inr (x0))), (1, .inl (x1))], [.inl ((4 : Int32)), .inl ((σ.1 x0 3))], hp σ, 0, 0)) 1 rfl ?_
      refine T_icmp_ge 28 rfl rfl (fun _ => ?_) (fun _ => ?_)
      · refine T_go (S' := (29, [(0, .inr (.inr (x0))), (1, .inl (x1))], [.inl ((0 : Int32))], hp σ, 0, 0)) 1 rfl ?_
        refine T_loc (ls' := []) [] rfl ?_
        exact s_X10_admits_29 (0 : Int32) σ
      · refine T_loc (ls' := []) [] rfl ?_
        exact s_X10_admits_24  σ
def f_X0_hasRoomForStore_34 (s0 : Int32) (σ : eMem) : Option (Int32 × eMem) :=
  if eB s0 = true then some (s0, σ) else none
set_option maxHeartbeats 4000000 in
set_option maxRecDepth 20000 in
theorem s_X0_hasRoomForStore_34 (s0 : Int32) (σ : eMem) : Snd false none 1 m_X0_hasRoomForStore (f_X0_hasRoomForStore_34 s0 σ) (cN iI) (34, [], [.inl (s0)], hp σ, 0, 0) := by
  unfold f_X0_hasRoomForStore_34
  exact T_chkr rfl
def f_X0_hasRoomForStore (x0 : Nat) (x1 : Int32) (σ : eMem) : Option (Int32 × eMem) :=
  if (KH x0).1 = 0 then
    if (KH (RH x0 8)).1 = 8 then
      if (σ.1 (RH x0 8) 0) = (0 : Int32) then
        if (KH x0).1 = 0 then
          if (4 : Int32) ≤ (σ.1 x0 7) then
            f_X0_hasRoomForStore_34 (0 : Int32) σ
          else
            f_X0_hasRoomForStore_34 (1 : Int32) σ
        else none
      else
        if (KH x0).1 = 0 then
          if (KH (RH x0 8)).1 = 8 then
            Option.bind (f_X10_admits (RH x0 8) x1 σ) (fun r1 =>
              f_X0_hasRoomForStore_34 r1.1 r1.2
              )
          else none
        else none
    else none
  else none
set_option maxHeartbeats 4000000 in
set_option maxRecDepth 20000 in
theorem s_X0_hasRoomForStore (x0 : Nat) (x1 : Int32) (σ : eMem) : ∀ r, f_X0_hasRoomForStore x0 x1 σ = some r → Ew false 2 2 [.inr (.inr (x0)), .inl (x1)] (hp σ) (cN iI r) := by
  refine T_meth (md := m_X0_hasRoomForStore) (d0 := 1) (cv := (cN iI)) rfl (lb rfl) (lb rfl) ?_
  unfold f_X0_hasRoomForStore
  show Snd false none _ _ _ _ (0, [(0, .inr (.inr (x0))), (1, .inl (x1))], [], hp σ, 0, 0)
  refine T_go (S' := (1, [(0, .inr (.inr (x0))), (1, .inl (x1))], [.inr (.inr (x0))], hp σ, 0, 0)) 1 rfl ?_
  refine T_getR rfl (fun _ => ?_)
  refine T_getI rfl (fun _ => ?_)
  refine T_if_eq 21 rfl rfl (fun _ => ?_) (fun _ => ?_)
  · refine T_go (S' := (22, [(0, .inr (.inr (x0))), (1, .inl (x1))], [.inr (.inr (x0))], hp σ, 0, 0)) 1 rfl ?_
    refine T_getI rfl (fun _ => ?_)
    refine T_go (S' := (26, [(0, .inr (.inr (x0))), (1, .inl (x1))], [.inl ((4 : Int32)), .inl ((σ.1 x0 7))], hp σ, 0, 0)) 1 rfl ?_
    refine T_icmp_ge 33 rfl rfl (fun _ => ?_) (fun _ => ?_)
    · refine T_go (S' := (34, [(0, .inr (.inr (x0))), (1, .inl (x1))], [.inl ((0 : Int32))], hp σ, 0, 0)) 1 rfl ?_
      refine T_loc (ls' := []) [] rfl ?_
      exact s_X0_hasRoomForStore_34 (0 : Int32) σ
    · refine T_go (S' := (34, [(0, .inr (.inr (x0))), (1, .inl (x1))], [.inl ((1 : Int32))], hp σ, 0, 0)) 2 rfl ?_
      refine T_loc (ls' := []) [] rfl ?_
      exact s_X0_hasRoomForStore_34 (1 : Int32) σ
  · refine T_go (S' := (11, [(0, .inr (.inr (x0))), (1, .inl (x1))], [.inr (.inr (x0))], hp σ, 0, 0)) 1 rfl ?_
    refine T_getR rfl (fun _ => ?_)
    refine T_go (S' := (15, [(0, .inr (.inr (x0))), (1, .inl (x1))], [.inl (x1), .inr (.inr ((RH x0 8)))], hp σ, 0, 0)) 1 rfl ?_
    refine T_cv (i := iI) (as := [.inr (.inr ((RH x0 8))), .inl (x1)]) (rest := []) (st := [.inl (x1), .inr (.inr ((RH x0 8)))]) rfl rfl rfl ⟨lb rfl, lb rfl, lb rfl, lb rfl⟩ (fun _ h => Ew_le (lb rfl) (s_X10_admits (RH x0 8) x1 σ _ h)) (fun _ r1 => ?_)
    show Snd false none _ _ _ (cN iI) (18, [(0, .inr (.inr (x0))), (1, .inl (x1))], [.inl (r1.1)], hp r1.2, 0, 0)
    refine T_go (S' := (34, [(0, .inr (.inr (x0))), (1, .inl (x1))], [.inl (r1.1)], hp r1.2, 0, 0)) 1 rfl ?_
    refine T_loc (ls' := []) [] rfl ?_
    exact s_X0_hasRoomForStore_34 r1.1 r1.2
def f_X10_keep_25 (x0 : Nat) (x1 : Int32) (x2 : Int32) (σ : eMem) : Option (Int32 × eMem) :=
  if (KH x0).1 = 8 then
    if (KH (RH x0 6)).1 = 11 ∧ eix x1 (KH (RH x0 6)).2 = true then eLet ((eup σ.1 (RH x0 6) x1.toNatClampNeg x2, σ.2) : eMem) (fun σ1 =>
      if (KH x0).1 = 8 then
        some ((σ1.1 x0 4), σ1)
      else none
      ) else none
  else none
set_option maxHeartbeats 4000000 in
set_option maxRecDepth 20000 in
theorem s_X10_keep_25 (x0 : Nat) (x1 : Int32) (x2 : Int32) (σ : eMem) : Snd false none 1 m_X10_keep (f_X10_keep_25 x0 x1 x2 σ) (cN iI) (25, [(0, .inr (.inr (x0))), (1, .inl (x1)), (2, .inl (x2))], [], hp σ, 0, 0) := by
  unfold f_X10_keep_25
  refine T_go (S' := (26, [(0, .inr (.inr (x0))), (1, .inl (x1)), (2, .inl (x2))], [.inr (.inr (x0))], hp σ, 0, 0)) 1 rfl ?_
  refine T_getR rfl (fun _ => ?_)
  refine T_go (S' := (31, [(0, .inr (.inr (x0))), (1, .inl (x1)), (2, .inl (x2))], [.inl (x2), .inl (x1), .inr (.inr ((RH x0 6)))], hp σ, 0, 0)) 2 rfl ?_
  refine T_iast rfl (fun _ => ?_)
  refine T_let (Sf := fun σ1 => (32, [(0, .inr (.inr (x0))), (1, .inl (x1)), (2, .inl (x2))], [], hp σ1, 0, 0)) (fun σ1 => ?_)
  refine T_go (S' := (33, [(0, .inr (.inr (x0))), (1, .inl (x1)), (2, .inl (x2))], [.inr (.inr (x0))], hp σ1, 0, 0)) 1 rfl ?_
  refine T_getI rfl (fun _ => ?_)
  exact T_ret rfl
def f_X10_keep (x0 : Nat) (x1 : Int32) (x2 : Int32) (σ : eMem) : Option (Int32 × eMem) :=
  if (KH x0).1 = 8 then
    Option.bind (f_X10_include x0 x1 σ) (fun r1 =>
      if (KH x0).1 = 8 then
        if (KH (RH x0 6)).1 = 11 ∧ eix x1 (KH (RH x0 6)).2 = true then
          if ¬ (r1.2.1 (RH x0 6) x1.toNatClampNeg) = (-1 : Int32) then
            f_X10_keep_25 x0 x1 x2 r1.2
          else
            if (KH x0).1 = 8 then
              if (KH x0).1 = 8 then eLet ((eup r1.2.1 x0 4 ((r1.2.1 x0 4) + (1 : Int32)), r1.2.2) : eMem) (fun σ2 =>
                f_X10_keep_25 x0 x1 x2 σ2
                ) else none
            else none
        else none
      else none
      )
  else none
set_option maxHeartbeats 4000000 in
set_option maxRecDepth 20000 in
theorem s_X10_keep (x0 : Nat) (x1 : Int32) (x2 : Int32) (σ : eMem) : ∀ r, f_X10_keep x0 x1 x2 σ = some r → Ew false 2 94 [.inr (.inr (x0)), .inl (x1), .inl (x2)] (hp σ) (cN iI r) := by
  refine T_meth (md := m_X10_keep) (d0 := 1) (cv := (cN iI)) rfl (lb rfl) (lb rfl) ?_
  unfold f_X10_keep
  show Snd false none _ _ _ _ (0, [(0, .inr (.inr (x0))), (1, .inl (x1)), (2, .inl (x2))], [], hp σ, 0, 0)
  refine T_go (S' := (2, [(0, .inr (.inr (x0))), (1, .inl (x1)), (2, .inl (x2))], [.inl (x1), .inr (.inr (x0))], hp σ, 0, 0)) 2 rfl ?_
  refine T_cv (i := iU) (as := [.inr (.inr (x0)), .inl (x1)]) (rest := []) (st := [.inl (x1), .inr (.inr (x0))]) rfl rfl rfl ⟨lb rfl, lb rfl, lb rfl, lb rfl⟩ (fun _ h => Ew_le (lb rfl) (s_X10_include x0 x1 σ _ h)) (fun _ r1 => ?_)
  show Snd false none _ _ _ (cN iI) (5, [(0, .inr (.inr (x0))), (1, .inl (x1)), (2, .inl (x2))], [], hp r1.2, 0, 0)
  refine T_go (S' := (6, [(0, .inr (.inr (x0))), (1, .inl (x1)), (2, .inl (x2))], [.inr (.inr (x0))], hp r1.2, 0, 0)) 1 rfl ?_
  refine T_getR rfl (fun _ => ?_)
  refine T_go (S' := (10, [(0, .inr (.inr (x0))), (1, .inl (x1)), (2, .inl (x2))], [.inl (x1), .inr (.inr ((RH x0 6)))], hp r1.2, 0, 0)) 1 rfl ?_
  refine T_iald rfl (fun _ => ?_)
  refine T_go (S' := (12, [(0, .inr (.inr (x0))), (1, .inl (x1)), (2, .inl (x2))], [.inl ((-1 : Int32)), .inl ((r1.2.1 (RH x0 6) x1.toNatClampNeg))], hp r1.2, 0, 0)) 1 rfl ?_
  refine T_icmp_ne 25 rfl rfl (fun _ => ?_) (fun _ => ?_)
  · refine T_loc (ls' := [(0, .inr (.inr (x0))), (1, .inl (x1)), (2, .inl (x2))]) [0, 1, 2] rfl ?_
    exact s_X10_keep_25 x0 x1 x2 r1.2
  · refine T_go (S' := (17, [(0, .inr (.inr (x0))), (1, .inl (x1)), (2, .inl (x2))], [.inr (.inr (x0)), .inr (.inr (x0))], hp r1.2, 0, 0)) 2 rfl ?_
    refine T_getI rfl (fun _ => ?_)
    refine T_go (S' := (22, [(0, .inr (.inr (x0))), (1, .inl (x1)), (2, .inl (x2))], [.inl (((r1.2.1 x0 4) + (1 : Int32))), .inr (.inr (x0))], hp r1.2, 0, 0)) 2 rfl ?_
    refine T_putI rfl (fun _ => ?_)
    refine T_let (Sf := fun σ2 => (25, [(0, .inr (.inr (x0))), (1, .inl (x1)), (2, .inl (x2))], [], hp σ2, 0, 0)) (fun σ2 => ?_)
    refine T_loc (ls' := [(0, .inr (.inr (x0))), (1, .inl (x1)), (2, .inl (x2))]) [0, 1, 2] rfl ?_
    exact s_X10_keep_25 x0 x1 x2 σ2
def f_X0_keepStore_58 (x0 : Nat) (σ : eMem) : Option (Int32 × eMem) :=
  if (KH x0).1 = 0 then
    some ((σ.1 x0 7), σ)
  else none
set_option maxHeartbeats 4000000 in
set_option maxRecDepth 20000 in
theorem s_X0_keepStore_58 (x0 : Nat) (σ : eMem) : Snd false none 2 m_X0_keepStore (f_X0_keepStore_58 x0 σ) (cN iI) (58, [(0, .inr (.inr (x0)))], [], hp σ, 0, 0) := by
  unfold f_X0_keepStore_58
  refine T_go (S' := (59, [(0, .inr (.inr (x0)))], [.inr (.inr (x0))], hp σ, 0, 0)) 1 rfl ?_
  refine T_getI rfl (fun _ => ?_)
  exact T_ret rfl
def f_X0_keepStore (x0 : Nat) (x1 : Int32) (x2 : Int32) (σ : eMem) : Option (Int32 × eMem) :=
  if (KH x0).1 = 0 then
    if (KH (RH x0 8)).1 = 8 then
      if (σ.1 (RH x0 8) 0) = (0 : Int32) then
        if (KH x0).1 = 0 then
          if (4 : Int32) ≤ (σ.1 x0 7) then
            f_X0_keepStore_58 x0 σ
          else
            if (KH x0).1 = 0 then
              if (KH x0).1 = 0 then
                if (KH (RH x0 5)).1 = 11 ∧ eix (σ.1 x0 7) (KH (RH x0 5)).2 = true then eLet ((eup σ.1 (RH x0 5) (σ.1 x0 7).toNatClampNeg x1, σ.2) : eMem) (fun σ1 =>
                  if (KH x0).1 = 0 then
                    if (KH x0).1 = 0 then
                      if (KH (RH x0 6)).1 = 11 ∧ eix (σ1.1 x0 7) (KH (RH x0 6)).2 = true then eLet ((eup σ1.1 (RH x0 6) (σ1.1 x0 7).toNatClampNeg x2, σ1.2) : eMem) (fun σ2 =>
                        if (KH x0).1 = 0 then
                          if (KH x0).1 = 0 then eLet ((eup σ2.1 x0 7 ((σ2.1 x0 7) + (1 : Int32)), σ2.2) : eMem) (fun σ3 =>
                            f_X0_keepStore_58 x0 σ3
                            ) else none
                        else none
                        ) else none
                    else none
                  else none
                  ) else none
              else none
            else none
        else none
      else
        if (KH x0).1 = 0 then
          if (KH (RH x0 8)).1 = 8 then
            Option.bind (f_X10_keep (RH x0 8) x1 x2 σ) (fun r4 =>
              some (r4.1, r4.2)
              )
          else none
        else none
    else none
  else none
set_option maxHeartbeats 4000000 in
set_option maxRecDepth 20000 in
theorem s_X0_keepStore (x0 : Nat) (x1 : Int32) (x2 : Int32) (σ : eMem) : ∀ r, f_X0_keepStore x0 x1 x2 σ = some r → Ew false 3 3 [.inr (.inr (x0)), .inl (x1), .inl (x2)] (hp σ) (cN iI r) := by
  refine T_meth (md := m_X0_keepStore) (d0 := 2) (cv := (cN iI)) rfl (lb rfl) (lb rfl) ?_
  unfold f_X0_keepStore
  show Snd false none _ _ _ _ (0, [(0, .inr (.inr (x0))), (1, .inl (x1)), (2, .inl (x2))], [], hp σ, 0, 0)
  refine T_go (S' := (1, [(0, .inr (.inr (x0))), (1, .inl (x1)), (2, .inl (x2))], [.inr (.inr (x0))], hp σ, 0, 0)) 1 rfl ?_
  refine T_getR rfl (fun _ => ?_)
  refine T_getI rfl (fun _ => ?_)
  refine T_if_eq 20 rfl rfl (fun _ => ?_) (fun _ => ?_)
  · refine T_go (S' := (21, [(0, .inr (.inr (x0))), (1, .inl (x1)), (2, .inl (x2))], [.inr (.inr (x0))], hp σ, 0, 0)) 1 rfl ?_
    refine T_getI rfl (fun _ => ?_)
    refine T_go (S' := (25, [(0, .inr (.inr (x0))), (1, .inl (x1)), (2, .inl (x2))], [.inl ((4 : Int32)), .inl ((σ.1 x0 7))], hp σ, 0, 0)) 1 rfl ?_
    refine T_icmp_ge 58 rfl rfl (fun _ => ?_) (fun _ => ?_)
    · refine T_loc (ls' := [(0, .inr (.inr (x0)))]) [0] rfl ?_
      exact s_X0_keepStore_58 x0 σ
    · refine T_go (S' := (29, [(0, .inr (.inr (x0))), (1, .inl (x1)), (2, .inl (x2))], [.inr (.inr (x0))], hp σ, 0, 0)) 1 rfl ?_
      refine T_getR rfl (fun _ => ?_)
      refine T_go (S' := (33, [(0, .inr (.inr (x0))), (1, .inl (x1)), (2, .inl (x2))], [.inr (.inr (x0)), .inr (.inr ((RH x0 5)))], hp σ, 0, 0)) 1 rfl ?_
      refine T_getI rfl (fun _ => ?_)
      refine T_go (S' := (37, [(0, .inr (.inr (x0))), (1, .inl (x1)), (2, .inl (x2))], [.inl (x1), .inl ((σ.1 x0 7)), .inr (.inr ((RH x0 5)))], hp σ, 0, 0)) 1 rfl ?_
      refine T_iast rfl (fun _ => ?_)
      refine T_let (Sf := fun σ1 => (38, [(0, .inr (.inr (x0))), (1, .inl (x1)), (2, .inl (x2))], [], hp σ1, 0, 0)) (fun σ1 => ?_)
      refine T_go (S' := (39, [(0, .inr (.inr (x0))), (1, .inl (x1)), (2, .inl (x2))], [.inr (.inr (x0))], hp σ1, 0, 0)) 1 rfl ?_
      refine T_getR rfl (fun _ => ?_)
      refine T_go (S' := (43, [(0, .inr (.inr (x0))), (1, .inl (x1)), (2, .inl (x2))], [.inr (.inr (x0)), .inr (.inr ((RH x0 6)))], hp σ1, 0, 0)) 1 rfl ?_
      refine T_getI rfl (fun _ => ?_)
      refine T_go (S' := (47, [(0, .inr (.inr (x0))), (1, .inl (x1)), (2, .inl (x2))], [.inl (x2), .inl ((σ1.1 x0 7)), .inr (.inr ((RH x0 6)))], hp σ1, 0, 0)) 1 rfl ?_
      refine T_iast rfl (fun _ => ?_)
      refine T_let (Sf := fun σ2 => (48, [(0, .inr (.inr (x0))), (1, .inl (x1)), (2, .inl (x2))], [], hp σ2, 0, 0)) (fun σ2 => ?_)
      refine T_go (S' := (50, [(0, .inr (.inr (x0))), (1, .inl (x1)), (2, .inl (x2))], [.inr (.inr (x0)), .inr (.inr (x0))], hp σ2, 0, 0)) 2 rfl ?_
      refine T_getI rfl (fun _ => ?_)
      refine T_go (S' := (55, [(0, .inr (.inr (x0))), (1, .inl (x1)), (2, .inl (x2))], [.inl (((σ2.1 x0 7) + (1 : Int32))), .inr (.inr (x0))], hp σ2, 0, 0)) 2 rfl ?_
      refine T_putI rfl (fun _ => ?_)
      refine T_let (Sf := fun σ3 => (58, [(0, .inr (.inr (x0))), (1, .inl (x1)), (2, .inl (x2))], [], hp σ3, 0, 0)) (fun σ3 => ?_)
      refine T_loc (ls' := [(0, .inr (.inr (x0)))]) [0] rfl ?_
      exact s_X0_keepStore_58 x0 σ3
  · refine T_go (S' := (11, [(0, .inr (.inr (x0))), (1, .inl (x1)), (2, .inl (x2))], [.inr (.inr (x0))], hp σ, 0, 0)) 1 rfl ?_
    refine T_getR rfl (fun _ => ?_)
    refine T_go (S' := (16, [(0, .inr (.inr (x0))), (1, .inl (x1)), (2, .inl (x2))], [.inl (x2), .inl (x1), .inr (.inr ((RH x0 8)))], hp σ, 0, 0)) 2 rfl ?_
    refine T_cv (i := iI) (as := [.inr (.inr ((RH x0 8))), .inl (x1), .inl (x2)]) (rest := []) (st := [.inl (x2), .inl (x1), .inr (.inr ((RH x0 8)))]) rfl rfl rfl ⟨lb rfl, lb rfl, lb rfl, lb rfl⟩ (fun _ h => Ew_le (lb rfl) (s_X10_keep (RH x0 8) x1 x2 σ _ h)) (fun _ r4 => ?_)
    show Snd false none _ _ _ (cN iI) (19, [(0, .inr (.inr (x0))), (1, .inl (x1)), (2, .inl (x2))], [.inl (r4.1)], hp r4.2, 0, 0)
    exact T_ret rfl
def f_X0_write (x0 : Nat) (x1 : Nat) (x2 : Int32) (σ : eMem) : Option (Unit × eMem) :=
  if (KH x1).1 = 6 then eLet ((eup σ.1 x1 1 (3 : Int32), σ.2) : eMem) (fun σ1 =>
    if (KH x1).1 = 6 then eLet ((eup σ1.1 x1 2 x2, σ1.2) : eMem) (fun σ2 =>
      if (KH x0).1 = 0 then
        Option.bind (f_X0_use x0 x1 σ2) (fun r3 =>
          some ((), r3.2)
          )
      else none
      ) else none
    ) else none
set_option maxHeartbeats 4000000 in
set_option maxRecDepth 20000 in
theorem s_X0_write (x0 : Nat) (x1 : Nat) (x2 : Int32) (σ : eMem) : ∀ r, f_X0_write x0 x1 x2 σ = some r → Ew false 2 14 [.inr (.inr (x0)), .inr (.inr (x1)), .inl (x2)] (hp σ) (cN iU r) := by
  refine T_meth (md := m_X0_write) (d0 := 1) (cv := (cN iU)) rfl (lb rfl) (lb rfl) ?_
  unfold f_X0_write
  show Snd false none _ _ _ _ (0, [(0, .inr (.inr (x0))), (1, .inr (.inr (x1))), (2, .inl (x2))], [], hp σ, 0, 0)
  refine T_go (S' := (2, [(0, .inr (.inr (x0))), (1, .inr (.inr (x1))), (2, .inl (x2))], [.inl ((3 : Int32)), .inr (.inr (x1))], hp σ, 0, 0)) 2 rfl ?_
  refine T_putI rfl (fun _ => ?_)
  refine T_let (Sf := fun σ1 => (5, [(0, .inr (.inr (x0))), (1, .inr (.inr (x1))), (2, .inl (x2))], [], hp σ1, 0, 0)) (fun σ1 => ?_)
  refine T_go (S' := (7, [(0, .inr (.inr (x0))), (1, .inr (.inr (x1))), (2, .inl (x2))], [.inl (x2), .inr (.inr (x1))], hp σ1, 0, 0)) 2 rfl ?_
  refine T_putI rfl (fun _ => ?_)
  refine T_let (Sf := fun σ2 => (10, [(0, .inr (.inr (x0))), (1, .inr (.inr (x1))), (2, .inl (x2))], [], hp σ2, 0, 0)) (fun σ2 => ?_)
  refine T_go (S' := (12, [(0, .inr (.inr (x0))), (1, .inr (.inr (x1))), (2, .inl (x2))], [.inr (.inr (x1)), .inr (.inr (x0))], hp σ2, 0, 0)) 2 rfl ?_
  refine T_cv (i := iU) (as := [.inr (.inr (x0)), .inr (.inr (x1))]) (rest := []) (st := [.inr (.inr (x1)), .inr (.inr (x0))]) rfl rfl rfl ⟨lb rfl, lb rfl, lb rfl, lb rfl⟩ (fun _ h => Ew_le (lb rfl) (s_X0_use x0 x1 σ2 _ h)) (fun _ r3 => ?_)
  show Snd false none _ _ _ (cN iU) (15, [(0, .inr (.inr (x0))), (1, .inr (.inr (x1))), (2, .inl (x2))], [], hp r3.2, 0, 0)
  exact T_ret rfl
def f_X0_doOldestStore_33 (x0 : Nat) (x1 : Int32) (σ : eMem) : Option (Int32 × eMem) :=
  if (KH x0).1 = 0 then
    Option.bind (f_X0_ask x0 x1 (1 : Int32) σ) (fun r1 =>
      if eB (0 : Int32) = true then some ((0 : Int32), r1.2) else none
      )
  else none
set_option maxHeartbeats 4000000 in
set_option maxRecDepth 20000 in
theorem s_X0_doOldestStore_33 (x0 : Nat) (x1 : Int32) (σ : eMem) : Snd false none 4 m_X0_doOldestStore (f_X0_doOldestStore_33 x0 x1 σ) (cN iI) (33, [(0, .inr (.inr (x0))), (1, .inl (x1))], [], hp σ, 0, 0) := by
  unfold f_X0_doOldestStore_33
  refine T_go (S' := (36, [(0, .inr (.inr (x0))), (1, .inl (x1))], [.inl ((1 : Int32)), .inl (x1), .inr (.inr (x0))], hp σ, 0, 0)) 3 rfl ?_
  refine T_cv (i := iI) (as := [.inr (.inr (x0)), .inl (x1), .inl ((1 : Int32))]) (rest := []) (st := [.inl ((1 : Int32)), .inl (x1), .inr (.inr (x0))]) rfl rfl rfl ⟨lb rfl, lb rfl, lb rfl, lb rfl⟩ (fun _ h => Ew_le (lb rfl) (s_X0_ask x0 x1 (1 : Int32) σ _ h)) (fun _ r1 => ?_)
  show Snd false none _ _ _ (cN iI) (39, [(0, .inr (.inr (x0))), (1, .inl (x1))], [.inl (r1.1)], hp r1.2, 0, 0)
  refine T_go (S' := (41, [(0, .inr (.inr (x0))), (1, .inl (x1))], [.inl ((0 : Int32))], hp r1.2, 0, 0)) 2 rfl ?_
  exact T_chkr rfl
def f_X0_doOldestStore_114  (σ : eMem) : Option (Int32 × eMem) :=
  if eB (1 : Int32) = true then some ((1 : Int32), σ) else none
set_option maxHeartbeats 4000000 in
set_option maxRecDepth 20000 in
theorem s_X0_doOldestStore_114  (σ : eMem) : Snd false none 4 m_X0_doOldestStore (f_X0_doOldestStore_114 σ) (cN iI) (114, [], [], hp σ, 0, 0) := by
  unfold f_X0_doOldestStore_114
  refine T_go (S' := (115, [], [.inl ((1 : Int32))], hp σ, 0, 0)) 1 rfl ?_
  exact T_chkr rfl
def f_X0_doOldestStore_65 : Nat → Nat → Int32 → eMem → Option (Int32 × eMem)
  | 0, _, _, _ => none
  | n + 1, x0, x3, σ =>
    if (KH x0).1 = 0 then
      if (σ.1 x0 7) ≤ x3 then
        f_X0_doOldestStore_114  σ
      else
        if (4 : Int32) ≤ (x3 + (1 : Int32)) then
          f_X0_doOldestStore_114  σ
        else
          if (KH x0).1 = 0 then
            if (KH x0).1 = 0 then
              if (KH (RH x0 5)).1 = 11 ∧ eix (x3 + (1 : Int32)) (KH (RH x0 5)).2 = true then
                if (KH (RH x0 5)).1 = 11 ∧ eix x3 (KH (RH x0 5)).2 = true then eLet ((eup σ.1 (RH x0 5) x3.toNatClampNeg (σ.1 (RH x0 5) (x3 + (1 : Int32)).toNatClampNeg), σ.2) : eMem) (fun σ1 =>
                  if (KH x0).1 = 0 then
                    if (KH x0).1 = 0 then
                      if (KH (RH x0 6)).1 = 11 ∧ eix (x3 + (1 : Int32)) (KH (RH x0 6)).2 = true then
                        if (KH (RH x0 6)).1 = 11 ∧ eix x3 (KH (RH x0 6)).2 = true then eLet ((eup σ1.1 (RH x0 6) x3.toNatClampNeg (σ1.1 (RH x0 6) (x3 + (1 : Int32)).toNatClampNeg), σ1.2) : eMem) (fun σ2 =>
                          f_X0_doOldestStore_65 n x0 (x3 + (1 : Int32)) σ2
                          ) else none
                      else none
                    else none
                  else none
                  ) else none
              else none
            else none
          else none
    else none
set_option maxHeartbeats 4000000 in
set_option maxRecDepth 20000 in
theorem s_X0_doOldestStore_65 : ∀ (n : Nat) (x0 : Nat) (x3 : Int32) (σ : eMem), Snd false none 4 m_X0_doOldestStore (f_X0_doOldestStore_65 n x0 x3 σ) (cN iI) (65, [(0, .inr (.inr (x0))), (3, .inl (x3))], [], hp σ, 0, 0) := by
  intro n
  induction n with
  | zero => exact fun _ _ _ => T_none
  | succ n ih =>
    intro x0 x3 σ
    unfold f_X0_doOldestStore_65
    refine T_go (S' := (67, [(0, .inr (.inr (x0))), (3, .inl (x3))], [.inr (.inr (x0)), .inl (x3)], hp σ, 0, 0)) 2 rfl ?_
    refine T_getI rfl (fun _ => ?_)
    refine T_icmp_ge 114 rfl rfl (fun _ => ?_) (fun _ => ?_)
    · refine T_loc (ls' := []) [] rfl ?_
      exact s_X0_doOldestStore_114  σ
    · refine T_go (S' := (77, [(0, .inr (.inr (x0))), (3, .inl (x3))], [.inl ((4 : Int32)), .inl ((x3 + (1 : Int32)))], hp σ, 0, 0)) 4 rfl ?_
      refine T_icmp_ge 114 rfl rfl (fun _ => ?_) (fun _ => ?_)
      · refine T_loc (ls' := []) [] rfl ?_
        exact s_X0_doOldestStore_114  σ
      · refine T_go (S' := (81, [(0, .inr (.inr (x0))), (3, .inl (x3))], [.inr (.inr (x0))], hp σ, 0, 0)) 1 rfl ?_
        refine T_getR rfl (fun _ => ?_)
        refine T_go (S' := (86, [(0, .inr (.inr (x0))), (3, .inl (x3))], [.inr (.inr (x0)), .inl (x3), .inr (.inr ((RH x0 5)))], hp σ, 0, 0)) 2 rfl ?_
        refine T_getR rfl (fun _ => ?_)
        refine T_go (S' := (92, [(0, .inr (.inr (x0))), (3, .inl (x3))], [.inl ((x3 + (1 : Int32))), .inr (.inr ((RH x0 5))), .inl (x3), .inr (.inr ((RH x0 5)))], hp σ, 0, 0)) 3 rfl ?_
        refine T_iald rfl (fun _ => ?_)
        refine T_iast rfl (fun _ => ?_)
        refine T_let (Sf := fun σ1 => (94, [(0, .inr (.inr (x0))), (3, .inl (x3))], [], hp σ1, 0, 0)) (fun σ1 => ?_)
        refine T_go (S' := (95, [(0, .inr (.inr (x0))), (3, .inl (x3))], [.inr (.inr (x0))], hp σ1, 0, 0)) 1 rfl ?_
        refine T_getR rfl (fun _ => ?_)
        refine T_go (S' := (100, [(0, .inr (.inr (x0))), (3, .inl (x3))], [.inr (.inr (x0)), .inl (x3), .inr (.inr ((RH x0 6)))], hp σ1, 0, 0)) 2 rfl ?_
        refine T_getR rfl (fun _ => ?_)
        refine T_go (S' := (106, [(0, .inr (.inr (x0))), (3, .inl (x3))], [.inl ((x3 + (1 : Int32))), .inr (.inr ((RH x0 6))), .inl (x3), .inr (.inr ((RH x0 6)))], hp σ1, 0, 0)) 3 rfl ?_
        refine T_iald rfl (fun _ => ?_)
        refine T_iast rfl (fun _ => ?_)
        refine T_let (Sf := fun σ2 => (108, [(0, .inr (.inr (x0))), (3, .inl (x3))], [], hp σ2, 0, 0)) (fun σ2 => ?_)
        refine T_go (S' := (65, [(3, .inl ((x3 + (1 : Int32)))), (0, .inr (.inr (x0)))], [], hp σ2, 0, 0)) 2 rfl ?_
        refine T_loc (ls' := [(0, .inr (.inr (x0))), (3, .inl ((x3 + (1 : Int32))))]) [1, 0] rfl ?_
        exact ih x0 (x3 + (1 : Int32)) σ2
def f_X0_doOldestStore (x0 : Nat) (σ : eMem) : Option (Int32 × eMem) :=
  if (KH x0).1 = 0 then
    if ¬ (σ.1 x0 7) = (0 : Int32) then
      if (KH x0).1 = 0 then
        if (KH (RH x0 5)).1 = 11 ∧ eix (0 : Int32) (KH (RH x0 5)).2 = true then
          eLet ((σ.1 (RH x0 5) (0 : Int32).toNatClampNeg) : Int32) (fun v1 =>
            if (KH x0).1 = 0 then
              Option.bind (f_X0_placeOf x0 v1 σ) (fun r2 =>
                if r2.1 = 0 then
                  f_X0_doOldestStore_33 x0 v1 r2.2
                else
                  if (KH r2.1).1 = 6 then
                    Option.bind (f_X7_mayBeWritten r2.1 r2.2) (fun r3 =>
                      if ¬ r3.1 = (0 : Int32) then
                        if (KH x0).1 = 0 then
                          if (KH (RH x0 6)).1 = 11 ∧ eix (0 : Int32) (KH (RH x0 6)).2 = true then
                            if (KH x0).1 = 0 then
                              Option.bind (f_X0_write x0 r2.1 (r3.2.1 (RH x0 6) (0 : Int32).toNatClampNeg) r3.2) (fun r4 =>
                                if (KH x0).1 = 0 then
                                  if (KH x0).1 = 0 then eLet ((eup r4.2.1 x0 7 ((r4.2.1 x0 7) - (1 : Int32)), r4.2.2) : eMem) (fun σ5 =>
                                    f_X0_doOldestStore_65 1000000 x0 (0 : Int32) σ5
                                    ) else none
                                else none
                                )
                            else none
                          else none
                        else none
                      else
                        f_X0_doOldestStore_33 x0 v1 r3.2
                      )
                  else none
                )
            else none
            )
        else none
      else none
    else
      if eB (0 : Int32) = true then some ((0 : Int32), σ) else none
  else none
set_option maxHeartbeats 4000000 in
set_option maxRecDepth 20000 in
theorem s_X0_doOldestStore (x0 : Nat) (σ : eMem) : ∀ r, f_X0_doOldestStore x0 σ = some r → Ew false 5 4 [.inr (.inr (x0))] (hp σ) (cN iI r) := by
  refine T_meth (md := m_X0_doOldestStore) (d0 := 4) (cv := (cN iI)) rfl (lb rfl) (lb rfl) ?_
  unfold f_X0_doOldestStore
  show Snd false none _ _ _ _ (0, [(0, .inr (.inr (x0)))], [], hp σ, 0, 0)
  refine T_go (S' := (1, [(0, .inr (.inr (x0)))], [.inr (.inr (x0))], hp σ, 0, 0)) 1 rfl ?_
  refine T_getI rfl (fun _ => ?_)
  refine T_if_ne 9 rfl rfl (fun _ => ?_) (fun _ => ?_)
  · refine T_go (S' := (10, [(0, .inr (.inr (x0)))], [.inr (.inr (x0))], hp σ, 0, 0)) 1 rfl ?_
    refine T_getR rfl (fun _ => ?_)
    refine T_go (S' := (14, [(0, .inr (.inr (x0)))], [.inl ((0 : Int32)), .inr (.inr ((RH x0 5)))], hp σ, 0, 0)) 1 rfl ?_
    refine T_iald rfl (fun _ => ?_)
    refine T_go (S' := (16, [(1, .inl ((σ.1 (RH x0 5) (0 : Int32).toNatClampNeg))), (0, .inr (.inr (x0)))], [], hp σ, 0, 0)) 1 rfl ?_
    refine T_let (Sf := fun v1 => (16, [(1, .inl (v1)), (0, .inr (.inr (x0)))], [], hp σ, 0, 0)) (fun v1 => ?_)
    refine T_go (S' := (18, [(1, .inl (v1)), (0, .inr (.inr (x0)))], [.inl (v1), .inr (.inr (x0))], hp σ, 0, 0)) 2 rfl ?_
    refine T_cv (i := iR) (as := [.inr (.inr (x0)), .inl (v1)]) (rest := []) (st := [.inl (v1), .inr (.inr (x0))]) rfl rfl rfl ⟨lb rfl, lb rfl, lb rfl, lb rfl⟩ (fun _ h => Ew_le (lb rfl) (s_X0_placeOf x0 v1 σ _ h)) (fun _ r2 => ?_)
    show Snd false none _ _ _ (cN iI) (21, [(1, .inl (v1)), (0, .inr (.inr (x0)))], [.inr (.inr (r2.1))], hp r2.2, 0, 0)
    refine T_go (S' := (23, [(2, .inr (.inr (r2.1))), (1, .inl (v1)), (0, .inr (.inr (x0)))], [.inr (.inr (r2.1))], hp r2.2, 0, 0)) 2 rfl ?_
    refine T_ifnull 33 rfl rfl (fun _ => ?_) (fun _ => ?_)
    · refine T_loc (ls' := [(0, .inr (.inr (x0))), (1, .inl (v1))]) [2, 1] rfl ?_
      exact s_X0_doOldestStore_33 x0 v1 r2.2
    · refine T_go (S' := (27, [(2, .inr (.inr (r2.1))), (1, .inl (v1)), (0, .inr (.inr (x0)))], [.inr (.inr (r2.1))], hp r2.2, 0, 0)) 1 rfl ?_
      refine T_cv (i := iI) (as := [.inr (.inr (r2.1))]) (rest := []) (st := [.inr (.inr (r2.1))]) rfl rfl rfl ⟨lb rfl, lb rfl, lb rfl, lb rfl⟩ (fun _ h => Ew_le (lb rfl) (s_X7_mayBeWritten r2.1 r2.2 _ h)) (fun _ r3 => ?_)
      show Snd false none _ _ _ (cN iI) (30, [(2, .inr (.inr (r2.1))), (1, .inl (v1)), (0, .inr (.inr (x0)))], [.inl (r3.1)], hp r3.2, 0, 0)
      refine T_if_ne 42 rfl rfl (fun _ => ?_) (fun _ => ?_)
      · refine T_go (S' := (45, [(2, .inr (.inr (r2.1))), (1, .inl (v1)), (0, .inr (.inr (x0)))], [.inr (.inr (x0)), .inr (.inr (r2.1)), .inr (.inr (x0))], hp r3.2, 0, 0)) 3 rfl ?_
        refine T_getR rfl (fun _ => ?_)
        refine T_go (S' := (49, [(2, .inr (.inr (r2.1))), (1, .inl (v1)), (0, .inr (.inr (x0)))], [.inl ((0 : Int32)), .inr (.inr ((RH x0 6))), .inr (.inr (r2.1)), .inr (.inr (x0))], hp r3.2, 0, 0)) 1 rfl ?_
        refine T_iald rfl (fun _ => ?_)
        refine T_cv (i := iU) (as := [.inr (.inr (x0)), .inr (.inr (r2.1)), .inl ((r3.2.1 (RH x0 6) (0 : Int32).toNatClampNeg))]) (rest := []) (st := [.inl ((r3.2.1 (RH x0 6) (0 : Int32).toNatClampNeg)), .inr (.inr (r2.1)), .inr (.inr (x0))]) rfl rfl rfl ⟨lb rfl, lb rfl, lb rfl, lb rfl⟩ (fun _ h => Ew_le (lb rfl) (s_X0_write x0 r2.1 (r3.2.1 (RH x0 6) (0 : Int32).toNatClampNeg) r3.2 _ h)) (fun _ r4 => ?_)
        show Snd false none _ _ _ (cN iI) (53, [(2, .inr (.inr (r2.1))), (1, .inl (v1)), (0, .inr (.inr (x0)))], [], hp r4.2, 0, 0)
        refine T_go (S' := (55, [(2, .inr (.inr (r2.1))), (1, .inl (v1)), (0, .inr (.inr (x0)))], [.inr (.inr (x0)), .inr (.inr (x0))], hp r4.2, 0, 0)) 2 rfl ?_
        refine T_getI rfl (fun _ => ?_)
        refine T_go (S' := (60, [(2, .inr (.inr (r2.1))), (1, .inl (v1)), (0, .inr (.inr (x0)))], [.inl (((r4.2.1 x0 7) - (1 : Int32))), .inr (.inr (x0))], hp r4.2, 0, 0)) 2 rfl ?_
        refine T_putI rfl (fun _ => ?_)
        refine T_let (Sf := fun σ5 => (63, [(2, .inr (.inr (r2.1))), (1, .inl (v1)), (0, .inr (.inr (x0)))], [], hp σ5, 0, 0)) (fun σ5 => ?_)
        refine T_go (S' := (65, [(3, .inl ((0 : Int32))), (2, .inr (.inr (r2.1))), (1, .inl (v1)), (0, .inr (.inr (x0)))], [], hp σ5, 0, 0)) 2 rfl ?_
        refine T_loc (ls' := [(0, .inr (.inr (x0))), (3, .inl ((0 : Int32)))]) [3, 0] rfl ?_
        exact s_X0_doOldestStore_65 1000000 x0 (0 : Int32) σ5
      · refine T_loc (ls' := [(0, .inr (.inr (x0))), (1, .inl (v1))]) [2, 1] rfl ?_
        exact s_X0_doOldestStore_33 x0 v1 r3.2
  · refine T_go (S' := (8, [(0, .inr (.inr (x0)))], [.inl ((0 : Int32))], hp σ, 0, 0)) 1 rfl ?_
    exact T_chkr rfl
def f_X0_isAtRest_22 (s0 : Int32) (σ : eMem) : Option (Int32 × eMem) :=
  if eB s0 = true then some (s0, σ) else none
set_option maxHeartbeats 4000000 in
set_option maxRecDepth 20000 in
theorem s_X0_isAtRest_22 (s0 : Int32) (σ : eMem) : Snd false none 0 m_X0_isAtRest (f_X0_isAtRest_22 s0 σ) (cN iI) (22, [], [.inl (s0)], hp σ, 0, 0) := by
  unfold f_X0_isAtRest_22
  exact T_chkr rfl
def f_X0_isAtRest_21  (σ : eMem) : Option (Int32 × eMem) :=
  f_X0_isAtRest_22 (0 : Int32) σ
set_option maxHeartbeats 4000000 in
set_option maxRecDepth 20000 in
theorem s_X0_isAtRest_21  (σ : eMem) : Snd false none 0 m_X0_isAtRest (f_X0_isAtRest_21 σ) (cN iI) (21, [], [], hp σ, 0, 0) := by
  unfold f_X0_isAtRest_21
  refine T_go (S' := (22, [], [.inl ((0 : Int32))], hp σ, 0, 0)) 1 rfl ?_
  refine T_loc (ls' := []) [] rfl ?_
  exact s_X0_isAtRest_22 (0 : Int32) σ
def f_X0_isAtRest (x0 : Nat) (σ : eMem) : Option (Int32 × eMem) :=
  if (KH x0).1 = 0 then
    if ¬ (σ.1 x0 7) = (0 : Int32) then
      f_X0_isAtRest_21  σ
    else
      if (KH x0).1 = 0 then
        if (KH (RH x0 8)).1 = 8 then
          if ¬ (σ.1 (RH x0 8) 0) = (0 : Int32) then
            f_X0_isAtRest_21  σ
          else
            f_X0_isAtRest_22 (1 : Int32) σ
        else none
      else none
  else none
set_option maxHeartbeats 4000000 in
set_option maxRecDepth 20000 in
theorem s_X0_isAtRest (x0 : Nat) (σ : eMem) : ∀ r, f_X0_isAtRest x0 σ = some r → Ew false 1 5 [.inr (.inr (x0))] (hp σ) (cN iI r) := by
  refine T_meth (md := m_X0_isAtRest) (d0 := 0) (cv := (cN iI)) rfl (lb rfl) (lb rfl) ?_
  unfold f_X0_isAtRest
  show Snd false none _ _ _ _ (0, [(0, .inr (.inr (x0)))], [], hp σ, 0, 0)
  refine T_go (S' := (1, [(0, .inr (.inr (x0)))], [.inr (.inr (x0))], hp σ, 0, 0)) 1 rfl ?_
  refine T_getI rfl (fun _ => ?_)
  refine T_if_ne 21 rfl rfl (fun _ => ?_) (fun _ => ?_)
  · refine T_loc (ls' := []) [] rfl ?_
    exact s_X0_isAtRest_21  σ
  · refine T_go (S' := (8, [(0, .inr (.inr (x0)))], [.inr (.inr (x0))], hp σ, 0, 0)) 1 rfl ?_
    refine T_getR rfl (fun _ => ?_)
    refine T_getI rfl (fun _ => ?_)
    refine T_if_ne 21 rfl rfl (fun _ => ?_) (fun _ => ?_)
    · refine T_loc (ls' := []) [] rfl ?_
      exact s_X0_isAtRest_21  σ
    · refine T_go (S' := (22, [(0, .inr (.inr (x0)))], [.inl ((1 : Int32))], hp σ, 0, 0)) 2 rfl ?_
      refine T_loc (ls' := []) [] rfl ?_
      exact s_X0_isAtRest_22 (1 : Int32) σ
def f_X0_addAtOnce_17 (x0 : Nat) (x1 : Int32) (σ : eMem) : Option (Int32 × eMem) :=
  if (KH x0).1 = 0 then
    Option.bind (f_X0_ask x0 x1 (1 : Int32) σ) (fun r1 =>
      some ((-1 : Int32), r1.2)
      )
  else none
set_option maxHeartbeats 4000000 in
set_option maxRecDepth 20000 in
theorem s_X0_addAtOnce_17 (x0 : Nat) (x1 : Int32) (σ : eMem) : Snd false none 4 m_X0_addAtOnce (f_X0_addAtOnce_17 x0 x1 σ) (cN iI) (17, [(0, .inr (.inr (x0))), (1, .inl (x1))], [], hp σ, 0, 0) := by
  unfold f_X0_addAtOnce_17
  refine T_go (S' := (20, [(0, .inr (.inr (x0))), (1, .inl (x1))], [.inl ((1 : Int32)), .inl (x1), .inr (.inr (x0))], hp σ, 0, 0)) 3 rfl ?_
  refine T_cv (i := iI) (as := [.inr (.inr (x0)), .inl (x1), .inl ((1 : Int32))]) (rest := []) (st := [.inl ((1 : Int32)), .inl (x1), .inr (.inr (x0))]) rfl rfl rfl ⟨lb rfl, lb rfl, lb rfl, lb rfl⟩ (fun _ h => Ew_le (lb rfl) (s_X0_ask x0 x1 (1 : Int32) σ _ h)) (fun _ r1 => ?_)
  show Snd false none _ _ _ (cN iI) (23, [(0, .inr (.inr (x0))), (1, .inl (x1))], [.inl (r1.1)], hp r1.2, 0, 0)
  refine T_go (S' := (25, [(0, .inr (.inr (x0))), (1, .inl (x1))], [.inl ((-1 : Int32))], hp r1.2, 0, 0)) 2 rfl ?_
  exact T_ret rfl
def f_X0_addAtOnce (x0 : Nat) (x1 : Int32) (x2 : Int32) (σ : eMem) : Option (Int32 × eMem) :=
  if (KH x0).1 = 0 then
    Option.bind (f_X0_placeOf x0 x1 σ) (fun r1 =>
      if r1.1 = 0 then
        f_X0_addAtOnce_17 x0 x1 r1.2
      else
        if (KH r1.1).1 = 6 then
          Option.bind (f_X7_mayBeWritten r1.1 r1.2) (fun r2 =>
            if ¬ r2.1 = (0 : Int32) then
              if (KH r1.1).1 = 6 then
                eLet ((r2.2.1 r1.1 2) : Int32) (fun v3 =>
                  if ¬ (1000 : Int32) = 0 then
                    if (KH x0).1 = 0 then
                      Option.bind (f_X0_write x0 r1.1 ((v3 + x2) - (v3 + x2) / (1000 : Int32) * (1000 : Int32)) r2.2) (fun r4 =>
                        some (v3, r4.2)
                        )
                    else none
                  else none
                  )
              else none
            else
              f_X0_addAtOnce_17 x0 x1 r2.2
            )
        else none
      )
  else none
set_option maxHeartbeats 4000000 in
set_option maxRecDepth 20000 in
theorem s_X0_addAtOnce (x0 : Nat) (x1 : Int32) (x2 : Int32) (σ : eMem) : ∀ r, f_X0_addAtOnce x0 x1 x2 σ = some r → Ew false 5 6 [.inr (.inr (x0)), .inl (x1), .inl (x2)] (hp σ) (cN iI r) := by
  refine T_meth (md := m_X0_addAtOnce) (d0 := 4) (cv := (cN iI)) rfl (lb rfl) (lb rfl) ?_
  unfold f_X0_addAtOnce
  show Snd false none _ _ _ _ (0, [(0, .inr (.inr (x0))), (1, .inl (x1)), (2, .inl (x2))], [], hp σ, 0, 0)
  refine T_go (S' := (2, [(0, .inr (.inr (x0))), (1, .inl (x1)), (2, .inl (x2))], [.inl (x1), .inr (.inr (x0))], hp σ, 0, 0)) 2 rfl ?_
  refine T_cv (i := iR) (as := [.inr (.inr (x0)), .inl (x1)]) (rest := []) (st := [.inl (x1), .inr (.inr (x0))]) rfl rfl rfl ⟨lb rfl, lb rfl, lb rfl, lb rfl⟩ (fun _ h => Ew_le (lb rfl) (s_X0_placeOf x0 x1 σ _ h)) (fun _ r1 => ?_)
  show Snd false none _ _ _ (cN iI) (5, [(0, .inr (.inr (x0))), (1, .inl (x1)), (2, .inl (x2))], [.inr (.inr (r1.1))], hp r1.2, 0, 0)
  refine T_go (S' := (7, [(3, .inr (.inr (r1.1))), (0, .inr (.inr (x0))), (1, .inl (x1)), (2, .inl (x2))], [.inr (.inr (r1.1))], hp r1.2, 0, 0)) 2 rfl ?_
  refine T_ifnull 17 rfl rfl (fun _ => ?_) (fun _ => ?_)
  · refine T_loc (ls' := [(0, .inr (.inr (x0))), (1, .inl (x1))]) [1, 2] rfl ?_
    exact s_X0_addAtOnce_17 x0 x1 r1.2
  · refine T_go (S' := (11, [(3, .inr (.inr (r1.1))), (0, .inr (.inr (x0))), (1, .inl (x1)), (2, .inl (x2))], [.inr (.inr (r1.1))], hp r1.2, 0, 0)) 1 rfl ?_
    refine T_cv (i := iI) (as := [.inr (.inr (r1.1))]) (rest := []) (st := [.inr (.inr (r1.1))]) rfl rfl rfl ⟨lb rfl, lb rfl, lb rfl, lb rfl⟩ (fun _ h => Ew_le (lb rfl) (s_X7_mayBeWritten r1.1 r1.2 _ h)) (fun _ r2 => ?_)
    show Snd false none _ _ _ (cN iI) (14, [(3, .inr (.inr (r1.1))), (0, .inr (.inr (x0))), (1, .inl (x1)), (2, .inl (x2))], [.inl (r2.1)], hp r2.2, 0, 0)
    refine T_if_ne 26 rfl rfl (fun _ => ?_) (fun _ => ?_)
    · refine T_go (S' := (27, [(3, .inr (.inr (r1.1))), (0, .inr (.inr (x0))), (1, .inl (x1)), (2, .inl (x2))], [.inr (.inr (r1.1))], hp r2.2, 0, 0)) 1 rfl ?_
      refine T_getI rfl (fun _ => ?_)
      refine T_go (S' := (32, [(4, .inl ((r2.2.1 r1.1 2))), (3, .inr (.inr (r1.1))), (0, .inr (.inr (x0))), (1, .inl (x1)), (2, .inl (x2))], [], hp r2.2, 0, 0)) 1 rfl ?_
      refine T_let (Sf := fun v3 => (32, [(4, .inl (v3)), (3, .inr (.inr (r1.1))), (0, .inr (.inr (x0))), (1, .inl (x1)), (2, .inl (x2))], [], hp r2.2, 0, 0)) (fun v3 => ?_)
      refine T_go (S' := (41, [(4, .inl (v3)), (3, .inr (.inr (r1.1))), (0, .inr (.inr (x0))), (1, .inl (x1)), (2, .inl (x2))], [.inl ((1000 : Int32)), .inl ((v3 + x2)), .inr (.inr (r1.1)), .inr (.inr (x0))], hp r2.2, 0, 0)) 6 rfl ?_
      refine T_irem rfl (fun _ => ?_)
      refine T_cv (i := iU) (as := [.inr (.inr (x0)), .inr (.inr (r1.1)), .inl (((v3 + x2) - (v3 + x2) / (1000 : Int32) * (1000 : Int32)))]) (rest := []) (st := [.inl (((v3 + x2) - (v3 + x2) / (1000 : Int32) * (1000 : Int32))), .inr (.inr (r1.1)), .inr (.inr (x0))]) rfl rfl rfl ⟨lb rfl, lb rfl, lb rfl, lb rfl⟩ (fun _ h => Ew_le (lb rfl) (s_X0_write x0 r1.1 ((v3 + x2) - (v3 + x2) / (1000 : Int32) * (1000 : Int32)) r2.2 _ h)) (fun _ r4 => ?_)
      show Snd false none _ _ _ (cN iI) (45, [(4, .inl (v3)), (3, .inr (.inr (r1.1))), (0, .inr (.inr (x0))), (1, .inl (x1)), (2, .inl (x2))], [], hp r4.2, 0, 0)
      refine T_go (S' := (47, [(4, .inl (v3)), (3, .inr (.inr (r1.1))), (0, .inr (.inr (x0))), (1, .inl (x1)), (2, .inl (x2))], [.inl (v3)], hp r4.2, 0, 0)) 1 rfl ?_
      exact T_ret rfl
    · refine T_loc (ls' := [(0, .inr (.inr (x0))), (1, .inl (x1))]) [1, 2] rfl ?_
      exact s_X0_addAtOnce_17 x0 x1 r2.2
def f_X0_askForStoredLines_L4 : Nat → (Nat × Int32 × Int32 ⊕ (Nat × Int32 × Int32 ⊕ (Nat × Int32 × Int32 × Int32 ⊕ (Nat × Int32 × Int32)))) → eMem → Option (Int32 × eMem)
  | 0, _, _ => none
  | n + 1, .inl (x0, x1, x2), σ =>
    if (16 : Int32) ≤ x2 then
      if eB x1 = true then some (x1, σ) else none
    else
      if (KH x0).1 = 0 then
        Option.bind (f_X0_placeOf x0 x2 σ) (fun r1 =>
          if r1.1 = 0 then
            f_X0_askForStoredLines_L4 n (.inr (.inl (x0, x1, x2))) r1.2
          else
            if (KH r1.1).1 = 6 then
              Option.bind (f_X7_mayBeWritten r1.1 r1.2) (fun r2 =>
                if r2.1 = (0 : Int32) then
                  f_X0_askForStoredLines_L4 n (.inr (.inl (x0, x1, x2))) r2.2
                else
                  f_X0_askForStoredLines_L4 n (.inr (.inr (.inl (x0, x1, x2, (1 : Int32))))) r2.2
                )
            else none
          )
      else none
  | n + 1, .inr (.inl (x0, x1, x2)), σ =>
    f_X0_askForStoredLines_L4 n (.inr (.inr (.inl (x0, x1, x2, (0 : Int32))))) σ
  | n + 1, .inr (.inr (.inl (x0, x1, x2, s0))), σ =>
    if (KH x0).1 = 0 then
      if (KH (RH x0 8)).1 = 8 then
        Option.bind (f_X10_storedTo (RH x0 8) x2 σ) (fun r1 =>
          if r1.1 = (-1 : Int32) then
            f_X0_askForStoredLines_L4 n (.inr (.inr (.inr ((x0, x1, x2))))) r1.2
          else
            if ¬ s0 = (0 : Int32) then
              f_X0_askForStoredLines_L4 n (.inr (.inr (.inr ((x0, x1, x2))))) r1.2
            else
              if (KH x0).1 = 0 then
                Option.bind (f_X0_ask x0 x2 (1 : Int32) r1.2) (fun r2 =>
                  f_X0_askForStoredLines_L4 n (.inr (.inr (.inr ((x0, (1 : Int32), x2))))) r2.2
                  )
              else none
          )
      else none
    else none
  | n + 1, .inr (.inr (.inr ((x0, x1, x2)))), σ =>
    f_X0_askForStoredLines_L4 n (.inl (x0, x1, (x2 + (1 : Int32)))) σ
set_option maxHeartbeats 4000000 in
set_option maxRecDepth 20000 in
theorem s_X0_askForStoredLines_L4 : ∀ (n : Nat), (∀ (x0 : Nat) (x1 : Int32) (x2 : Int32) (σ : eMem), Snd false none 4 m_X0_askForStoredLines (f_X0_askForStoredLines_L4 n (.inl (x0, x1, x2)) σ) (cN iI) (4, [(0, .inr (.inr (x0))), (1, .inl (x1)), (2, .inl (x2))], [], hp σ, 0, 0)) ∧ (∀ (x0 : Nat) (x1 : Int32) (x2 : Int32) (σ : eMem), Snd false none 4 m_X0_askForStoredLines (f_X0_askForStoredLines_L4 n (.inr (.inl (x0, x1, x2))) σ) (cN iI) (31, [(0, .inr (.inr (x0))), (1, .inl (x1)), (2, .inl (x2))], [], hp σ, 0, 0)) ∧ (∀ (x0 : Nat) (x1 : Int32) (x2 : Int32) (s0 : Int32) (σ : eMem), Snd false none 4 m_X0_askForStoredLines (f_X0_askForStoredLines_L4 n (.inr (.inr (.inl (x0, x1, x2, s0)))) σ) (cN iI) (32, [(0, .inr (.inr (x0))), (1, .inl (x1)), (2, .inl (x2))], [.inl (s0)], hp σ, 0, 0)) ∧ (∀ (x0 : Nat) (x1 : Int32) (x2 : Int32) (σ : eMem), Snd false none 4 m_X0_askForStoredLines (f_X0_askForStoredLines_L4 n (.inr (.inr (.inr ((x0, x1, x2))))) σ) (cN iI) (60, [(0, .inr (.inr (x0))), (1, .inl (x1)), (2, .inl (x2))], [], hp σ, 0, 0)) := by
  intro n
  induction n with
  | zero => exact ⟨fun _ _ _ _ => T_none, fun _ _ _ _ => T_none, fun _ _ _ _ _ => T_none, fun _ _ _ _ => T_none⟩
  | succ n ih =>
    refine ⟨?_, ?_, ?_, ?_⟩
    · intro x0 x1 x2 σ
      unfold f_X0_askForStoredLines_L4
      refine T_go (S' := (7, [(0, .inr (.inr (x0))), (1, .inl (x1)), (2, .inl (x2))], [.inl ((16 : Int32)), .inl (x2)], hp σ, 0, 0)) 2 rfl ?_
      refine T_icmp_ge 66 rfl rfl (fun _ => ?_) (fun _ => ?_)
      · refine T_go (S' := (67, [(0, .inr (.inr (x0))), (1, .inl (x1)), (2, .inl (x2))], [.inl (x1)], hp σ, 0, 0)) 1 rfl ?_
        exact T_chkr rfl
      · refine T_go (S' := (12, [(0, .inr (.inr (x0))), (1, .inl (x1)), (2, .inl (x2))], [.inl (x2), .inr (.inr (x0))], hp σ, 0, 0)) 2 rfl ?_
        refine T_cv (i := iR) (as := [.inr (.inr (x0)), .inl (x2)]) (rest := []) (st := [.inl (x2), .inr (.inr (x0))]) rfl rfl rfl ⟨lb rfl, lb rfl, lb rfl, lb rfl⟩ (fun _ h => Ew_le (lb rfl) (s_X0_placeOf x0 x2 σ _ h)) (fun _ r1 => ?_)
        show Snd false none _ _ _ (cN iI) (15, [(0, .inr (.inr (x0))), (1, .inl (x1)), (2, .inl (x2))], [.inr (.inr (r1.1))], hp r1.2, 0, 0)
        refine T_go (S' := (17, [(3, .inr (.inr (r1.1))), (0, .inr (.inr (x0))), (1, .inl (x1)), (2, .inl (x2))], [.inr (.inr (r1.1))], hp r1.2, 0, 0)) 2 rfl ?_
        refine T_ifnull 31 rfl rfl (fun _ => ?_) (fun _ => ?_)
        · refine T_loc (ls' := [(0, .inr (.inr (x0))), (1, .inl (x1)), (2, .inl (x2))]) [1, 2, 3] rfl ?_
          exact (ih.2.1) x0 x1 x2 r1.2
        · refine T_go (S' := (21, [(3, .inr (.inr (r1.1))), (0, .inr (.inr (x0))), (1, .inl (x1)), (2, .inl (x2))], [.inr (.inr (r1.1))], hp r1.2, 0, 0)) 1 rfl ?_
          refine T_cv (i := iI) (as := [.inr (.inr (r1.1))]) (rest := []) (st := [.inr (.inr (r1.1))]) rfl rfl rfl ⟨lb rfl, lb rfl, lb rfl, lb rfl⟩ (fun _ h => Ew_le (lb rfl) (s_X7_mayBeWritten r1.1 r1.2 _ h)) (fun _ r2 => ?_)
          show Snd false none _ _ _ (cN iI) (24, [(3, .inr (.inr (r1.1))), (0, .inr (.inr (x0))), (1, .inl (x1)), (2, .inl (x2))], [.inl (r2.1)], hp r2.2, 0, 0)
          refine T_if_eq 31 rfl rfl (fun _ => ?_) (fun _ => ?_)
          · refine T_loc (ls' := [(0, .inr (.inr (x0))), (1, .inl (x1)), (2, .inl (x2))]) [1, 2, 3] rfl ?_
            exact (ih.2.1) x0 x1 x2 r2.2
          · refine T_go (S' := (32, [(3, .inr (.inr (r1.1))), (0, .inr (.inr (x0))), (1, .inl (x1)), (2, .inl (x2))], [.inl ((1 : Int32))], hp r2.2, 0, 0)) 2 rfl ?_
            refine T_loc (ls' := [(0, .inr (.inr (x0))), (1, .inl (x1)), (2, .inl (x2))]) [1, 2, 3] rfl ?_
            exact (ih.2.2.1) x0 x1 x2 (1 : Int32) r2.2
    · intro x0 x1 x2 σ
      unfold f_X0_askForStoredLines_L4
      refine T_go (S' := (32, [(0, .inr (.inr (x0))), (1, .inl (x1)), (2, .inl (x2))], [.inl ((0 : Int32))], hp σ, 0, 0)) 1 rfl ?_
      refine T_loc (ls' := [(0, .inr (.inr (x0))), (1, .inl (x1)), (2, .inl (x2))]) [0, 1, 2] rfl ?_
      exact (ih.2.2.1) x0 x1 x2 (0 : Int32) σ
    · intro x0 x1 x2 s0 σ
      unfold f_X0_askForStoredLines_L4
      refine T_go (S' := (35, [(4, .inl (s0)), (0, .inr (.inr (x0))), (1, .inl (x1)), (2, .inl (x2))], [.inr (.inr (x0))], hp σ, 0, 0)) 2 rfl ?_
      refine T_getR rfl (fun _ => ?_)
      refine T_go (S' := (39, [(4, .inl (s0)), (0, .inr (.inr (x0))), (1, .inl (x1)), (2, .inl (x2))], [.inl (x2), .inr (.inr ((RH x0 8)))], hp σ, 0, 0)) 1 rfl ?_
      refine T_cv (i := iI) (as := [.inr (.inr ((RH x0 8))), .inl (x2)]) (rest := []) (st := [.inl (x2), .inr (.inr ((RH x0 8)))]) rfl rfl rfl ⟨lb rfl, lb rfl, lb rfl, lb rfl⟩ (fun _ h => Ew_le (lb rfl) (s_X10_storedTo (RH x0 8) x2 σ _ h)) (fun _ r1 => ?_)
      show Snd false none _ _ _ (cN iI) (42, [(4, .inl (s0)), (0, .inr (.inr (x0))), (1, .inl (x1)), (2, .inl (x2))], [.inl (r1.1)], hp r1.2, 0, 0)
      refine T_go (S' := (43, [(4, .inl (s0)), (0, .inr (.inr (x0))), (1, .inl (x1)), (2, .inl (x2))], [.inl ((-1 : Int32)), .inl (r1.1)], hp r1.2, 0, 0)) 1 rfl ?_
      refine T_icmp_eq 60 rfl rfl (fun _ => ?_) (fun _ => ?_)
      · refine T_loc (ls' := [(0, .inr (.inr (x0))), (1, .inl (x1)), (2, .inl (x2))]) [1, 2, 3] rfl ?_
        exact (ih.2.2.2) x0 x1 x2 r1.2
      · refine T_go (S' := (48, [(4, .inl (s0)), (0, .inr (.inr (x0))), (1, .inl (x1)), (2, .inl (x2))], [.inl (s0)], hp r1.2, 0, 0)) 1 rfl ?_
        refine T_if_ne 60 rfl rfl (fun _ => ?_) (fun _ => ?_)
        · refine T_loc (ls' := [(0, .inr (.inr (x0))), (1, .inl (x1)), (2, .inl (x2))]) [1, 2, 3] rfl ?_
          exact (ih.2.2.2) x0 x1 x2 r1.2
        · refine T_go (S' := (54, [(4, .inl (s0)), (0, .inr (.inr (x0))), (1, .inl (x1)), (2, .inl (x2))], [.inl ((1 : Int32)), .inl (x2), .inr (.inr (x0))], hp r1.2, 0, 0)) 3 rfl ?_
          refine T_cv (i := iI) (as := [.inr (.inr (x0)), .inl (x2), .inl ((1 : Int32))]) (rest := []) (st := [.inl ((1 : Int32)), .inl (x2), .inr (.inr (x0))]) rfl rfl rfl ⟨lb rfl, lb rfl, lb rfl, lb rfl⟩ (fun _ h => Ew_le (lb rfl) (s_X0_ask x0 x2 (1 : Int32) r1.2 _ h)) (fun _ r2 => ?_)
          show Snd false none _ _ _ (cN iI) (57, [(4, .inl (s0)), (0, .inr (.inr (x0))), (1, .inl (x1)), (2, .inl (x2))], [.inl (r2.1)], hp r2.2, 0, 0)
          refine T_go (S' := (60, [(1, .inl ((1 : Int32))), (4, .inl (s0)), (0, .inr (.inr (x0))), (2, .inl (x2))], [], hp r2.2, 0, 0)) 3 rfl ?_
          refine T_loc (ls' := [(0, .inr (.inr (x0))), (1, .inl ((1 : Int32))), (2, .inl (x2))]) [2, 0, 3] rfl ?_
          exact (ih.2.2.2) x0 (1 : Int32) x2 r2.2
    · intro x0 x1 x2 σ
      unfold f_X0_askForStoredLines_L4
      refine T_go (S' := (4, [(2, .inl ((x2 + (1 : Int32)))), (0, .inr (.inr (x0))), (1, .inl (x1))], [], hp σ, 0, 0)) 2 rfl ?_
      refine T_loc (ls' := [(0, .inr (.inr (x0))), (1, .inl (x1)), (2, .inl ((x2 + (1 : Int32))))]) [1, 2, 0] rfl ?_
      exact (ih.1) x0 x1 (x2 + (1 : Int32)) σ
def f_X0_askForStoredLines (x0 : Nat) (σ : eMem) : Option (Int32 × eMem) :=
  f_X0_askForStoredLines_L4 1000000 (.inl (x0, (0 : Int32), (0 : Int32))) σ
set_option maxHeartbeats 4000000 in
set_option maxRecDepth 20000 in
theorem s_X0_askForStoredLines (x0 : Nat) (σ : eMem) : ∀ r, f_X0_askForStoredLines x0 σ = some r → Ew false 5 8 [.inr (.inr (x0))] (hp σ) (cN iI r) := by
  refine T_meth (md := m_X0_askForStoredLines) (d0 := 4) (cv := (cN iI)) rfl (lb rfl) (lb rfl) ?_
  unfold f_X0_askForStoredLines
  show Snd false none _ _ _ _ (0, [(0, .inr (.inr (x0)))], [], hp σ, 0, 0)
  refine T_go (S' := (4, [(2, .inl ((0 : Int32))), (1, .inl ((0 : Int32))), (0, .inr (.inr (x0)))], [], hp σ, 0, 0)) 4 rfl ?_
  refine T_loc (ls' := [(0, .inr (.inr (x0))), (1, .inl ((0 : Int32))), (2, .inl ((0 : Int32)))]) [2, 1, 0] rfl ?_
  exact (s_X0_askForStoredLines_L4 1000000).1 x0 (0 : Int32) (0 : Int32) σ
def f_X10_close_22  (σ : eMem) : Option (Unit × eMem) :=
  some ((), σ)
set_option maxHeartbeats 4000000 in
set_option maxRecDepth 20000 in
theorem s_X10_close_22  (σ : eMem) : Snd false none 0 m_X10_close (f_X10_close_22 σ) (cN iU) (22, [], [], hp σ, 0, 0) := by
  unfold f_X10_close_22
  exact T_ret rfl
def f_X10_close (x0 : Nat) (σ : eMem) : Option (Unit × eMem) :=
  if (KH x0).1 = 8 ∧ eB (0 : Int32) = true then eLet ((eup σ.1 x0 0 (0 : Int32), σ.2) : eMem) (fun σ1 =>
    if (KH x0).1 = 8 then
      if (σ1.1 x0 1) = (0 : Int32) then
        f_X10_close_22  σ1
      else
        if (KH x0).1 = 8 then
          if (KH x0).1 = 8 then eLet ((eup σ1.1 x0 2 ((σ1.1 x0 2) + (1 : Int32)), σ1.2) : eMem) (fun σ2 =>
            f_X10_close_22  σ2
            ) else none
        else none
    else none
    ) else none
set_option maxHeartbeats 4000000 in
set_option maxRecDepth 20000 in
theorem s_X10_close (x0 : Nat) (σ : eMem) : ∀ r, f_X10_close x0 σ = some r → Ew false 1 90 [.inr (.inr (x0))] (hp σ) (cN iU r) := by
  refine T_meth (md := m_X10_close) (d0 := 0) (cv := (cN iU)) rfl (lb rfl) (lb rfl) ?_
  unfold f_X10_close
  show Snd false none _ _ _ _ (0, [(0, .inr (.inr (x0)))], [], hp σ, 0, 0)
  refine T_go (S' := (2, [(0, .inr (.inr (x0)))], [.inl ((0 : Int32)), .inr (.inr (x0))], hp σ, 0, 0)) 2 rfl ?_
  refine T_putZ rfl (fun _ => ?_)
  refine T_let (Sf := fun σ1 => (5, [(0, .inr (.inr (x0)))], [], hp σ1, 0, 0)) (fun σ1 => ?_)
  refine T_go (S' := (6, [(0, .inr (.inr (x0)))], [.inr (.inr (x0))], hp σ1, 0, 0)) 1 rfl ?_
  refine T_getI rfl (fun _ => ?_)
  refine T_if_eq 22 rfl rfl (fun _ => ?_) (fun _ => ?_)
  · refine T_loc (ls' := []) [] rfl ?_
    exact s_X10_close_22  σ1
  · refine T_go (S' := (14, [(0, .inr (.inr (x0)))], [.inr (.inr (x0)), .inr (.inr (x0))], hp σ1, 0, 0)) 2 rfl ?_
    refine T_getI rfl (fun _ => ?_)
    refine T_go (S' := (19, [(0, .inr (.inr (x0)))], [.inl (((σ1.1 x0 2) + (1 : Int32))), .inr (.inr (x0))], hp σ1, 0, 0)) 2 rfl ?_
    refine T_putI rfl (fun _ => ?_)
    refine T_let (Sf := fun σ2 => (22, [(0, .inr (.inr (x0)))], [], hp σ2, 0, 0)) (fun σ2 => ?_)
    refine T_loc (ls' := []) [] rfl ?_
    exact s_X10_close_22  σ2
def f_X0_endTransaction_L41 : Nat → (Nat × Int32 ⊕ (Nat × Int32)) → eMem → Option (Int32 × eMem)
  | 0, _, _ => none
  | n + 1, .inl (x0, x1), σ =>
    if (16 : Int32) ≤ x1 then
      if (KH x0).1 = 0 then
        if (KH (RH x0 2)).1 = 11 ∧ eix (7 : Int32) (KH (RH x0 2)).2 = true then
          if (KH (RH x0 2)).1 = 11 ∧ eix (7 : Int32) (KH (RH x0 2)).2 = true then eLet ((eup σ.1 (RH x0 2) (7 : Int32).toNatClampNeg ((σ.1 (RH x0 2) (7 : Int32).toNatClampNeg) + (1 : Int32)), σ.2) : eMem) (fun σ1 =>
            if (KH x0).1 = 0 then
              if (KH (RH x0 8)).1 = 8 then
                Option.bind (f_X10_close (RH x0 8) σ1) (fun r2 =>
                  some ((1 : Int32), r2.2)
                  )
              else none
            else none
            ) else none
        else none
      else none
    else
      if (KH x0).1 = 0 then
        Option.bind (f_X0_placeOf x0 x1 σ) (fun r3 =>
          if r3.1 = 0 then
            f_X0_endTransaction_L41 n (.inr ((x0, x1))) r3.2
          else
            if (KH x0).1 = 0 then
              if (KH (RH x0 8)).1 = 8 then
                Option.bind (f_X10_storedTo (RH x0 8) x1 r3.2) (fun r4 =>
                  if r4.1 = (-1 : Int32) then
                    f_X0_endTransaction_L41 n (.inr ((x0, x1))) r4.2
                  else
                    if (KH x0).1 = 0 then
                      if (KH (RH x0 8)).1 = 8 then
                        Option.bind (f_X10_storedTo (RH x0 8) x1 r4.2) (fun r5 =>
                          if (KH x0).1 = 0 then
                            Option.bind (f_X0_write x0 r3.1 r5.1 r5.2) (fun r6 =>
                              f_X0_endTransaction_L41 n (.inr ((x0, x1))) r6.2
                              )
                          else none
                          )
                      else none
                    else none
                  )
              else none
            else none
          )
      else none
  | n + 1, .inr ((x0, x1)), σ =>
    f_X0_endTransaction_L41 n (.inl (x0, (x1 + (1 : Int32)))) σ
set_option maxHeartbeats 4000000 in
set_option maxRecDepth 20000 in
theorem s_X0_endTransaction_L41 : ∀ (n : Nat), (∀ (x0 : Nat) (x1 : Int32) (σ : eMem), Snd false none 5 m_X0_endTransaction (f_X0_endTransaction_L41 n (.inl (x0, x1)) σ) (cN iI) (41, [(0, .inr (.inr (x0))), (1, .inl (x1))], [], hp σ, 0, 0)) ∧ (∀ (x0 : Nat) (x1 : Int32) (σ : eMem), Snd false none 5 m_X0_endTransaction (f_X0_endTransaction_L41 n (.inr ((x0, x1))) σ) (cN iI) (82, [(0, .inr (.inr (x0))), (1, .inl (x1))], [], hp σ, 0, 0)) := by
  intro n
  induction n with
  | zero => exact ⟨fun _ _ _ => T_none, fun _ _ _ => T_none⟩
  | succ n ih =>
    refine ⟨?_, ?_⟩
    · intro x0 x1 σ
      unfold f_X0_endTransaction_L41
      refine T_go (S' := (44, [(0, .inr (.inr (x0))), (1, .inl (x1))], [.inl ((16 : Int32)), .inl (x1)], hp σ, 0, 0)) 2 rfl ?_
      refine T_icmp_ge 88 rfl rfl (fun _ => ?_) (fun _ => ?_)
      · refine T_go (S' := (89, [(0, .inr (.inr (x0))), (1, .inl (x1))], [.inr (.inr (x0))], hp σ, 0, 0)) 1 rfl ?_
        refine T_getR rfl (fun _ => ?_)
        refine T_go (S' := (95, [(0, .inr (.inr (x0))), (1, .inl (x1))], [.inl ((7 : Int32)), .inr (.inr ((RH x0 2))), .inl ((7 : Int32)), .inr (.inr ((RH x0 2)))], hp σ, 0, 0)) 2 rfl ?_
        refine T_iald rfl (fun _ => ?_)
        refine T_go (S' := (98, [(0, .inr (.inr (x0))), (1, .inl (x1))], [.inl (((σ.1 (RH x0 2) (7 : Int32).toNatClampNeg) + (1 : Int32))), .inl ((7 : Int32)), .inr (.inr ((RH x0 2)))], hp σ, 0, 0)) 2 rfl ?_
        refine T_iast rfl (fun _ => ?_)
        refine T_let (Sf := fun σ1 => (99, [(0, .inr (.inr (x0))), (1, .inl (x1))], [], hp σ1, 0, 0)) (fun σ1 => ?_)
        refine T_go (S' := (100, [(0, .inr (.inr (x0))), (1, .inl (x1))], [.inr (.inr (x0))], hp σ1, 0, 0)) 1 rfl ?_
        refine T_getR rfl (fun _ => ?_)
        refine T_cv (i := iU) (as := [.inr (.inr ((RH x0 8)))]) (rest := []) (st := [.inr (.inr ((RH x0 8)))]) rfl rfl rfl ⟨lb rfl, lb rfl, lb rfl, lb rfl⟩ (fun _ h => Ew_le (lb rfl) (s_X10_close (RH x0 8) σ1 _ h)) (fun _ r2 => ?_)
        show Snd false none _ _ _ (cN iI) (106, [(0, .inr (.inr (x0))), (1, .inl (x1))], [], hp r2.2, 0, 0)
        refine T_go (S' := (107, [(0, .inr (.inr (x0))), (1, .inl (x1))], [.inl ((1 : Int32))], hp r2.2, 0, 0)) 1 rfl ?_
        exact T_ret rfl
      · refine T_go (S' := (49, [(0, .inr (.inr (x0))), (1, .inl (x1))], [.inl (x1), .inr (.inr (x0))], hp σ, 0, 0)) 2 rfl ?_
        refine T_cv (i := iR) (as := [.inr (.inr (x0)), .inl (x1)]) (rest := []) (st := [.inl (x1), .inr (.inr (x0))]) rfl rfl rfl ⟨lb rfl, lb rfl, lb rfl, lb rfl⟩ (fun _ h => Ew_le (lb rfl) (s_X0_placeOf x0 x1 σ _ h)) (fun _ r3 => ?_)
        show Snd false none _ _ _ (cN iI) (52, [(0, .inr (.inr (x0))), (1, .inl (x1))], [.inr (.inr (r3.1))], hp r3.2, 0, 0)
        refine T_go (S' := (54, [(2, .inr (.inr (r3.1))), (0, .inr (.inr (x0))), (1, .inl (x1))], [.inr (.inr (r3.1))], hp r3.2, 0, 0)) 2 rfl ?_
        refine T_ifnull 82 rfl rfl (fun _ => ?_) (fun _ => ?_)
        · refine T_loc (ls' := [(0, .inr (.inr (x0))), (1, .inl (x1))]) [1, 2] rfl ?_
          exact (ih.2) x0 x1 r3.2
        · refine T_go (S' := (58, [(2, .inr (.inr (r3.1))), (0, .inr (.inr (x0))), (1, .inl (x1))], [.inr (.inr (x0))], hp r3.2, 0, 0)) 1 rfl ?_
          refine T_getR rfl (fun _ => ?_)
          refine T_go (S' := (62, [(2, .inr (.inr (r3.1))), (0, .inr (.inr (x0))), (1, .inl (x1))], [.inl (x1), .inr (.inr ((RH x0 8)))], hp r3.2, 0, 0)) 1 rfl ?_
          refine T_cv (i := iI) (as := [.inr (.inr ((RH x0 8))), .inl (x1)]) (rest := []) (st := [.inl (x1), .inr (.inr ((RH x0 8)))]) rfl rfl rfl ⟨lb rfl, lb rfl, lb rfl, lb rfl⟩ (fun _ h => Ew_le (lb rfl) (s_X10_storedTo (RH x0 8) x1 r3.2 _ h)) (fun _ r4 => ?_)
          show Snd false none _ _ _ (cN iI) (65, [(2, .inr (.inr (r3.1))), (0, .inr (.inr (x0))), (1, .inl (x1))], [.inl (r4.1)], hp r4.2, 0, 0)
          refine T_go (S' := (66, [(2, .inr (.inr (r3.1))), (0, .inr (.inr (x0))), (1, .inl (x1))], [.inl ((-1 : Int32)), .inl (r4.1)], hp r4.2, 0, 0)) 1 rfl ?_
          refine T_icmp_eq 82 rfl rfl (fun _ => ?_) (fun _ => ?_)
          · refine T_loc (ls' := [(0, .inr (.inr (x0))), (1, .inl (x1))]) [1, 2] rfl ?_
            exact (ih.2) x0 x1 r4.2
          · refine T_go (S' := (72, [(2, .inr (.inr (r3.1))), (0, .inr (.inr (x0))), (1, .inl (x1))], [.inr (.inr (x0)), .inr (.inr (r3.1)), .inr (.inr (x0))], hp r4.2, 0, 0)) 3 rfl ?_
            refine T_getR rfl (fun _ => ?_)
            refine T_go (S' := (76, [(2, .inr (.inr (r3.1))), (0, .inr (.inr (x0))), (1, .inl (x1))], [.inl (x1), .inr (.inr ((RH x0 8))), .inr (.inr (r3.1)), .inr (.inr (x0))], hp r4.2, 0, 0)) 1 rfl ?_
            refine T_cv (i := iI) (as := [.inr (.inr ((RH x0 8))), .inl (x1)]) (rest := [.inr (.inr (r3.1)), .inr (.inr (x0))]) (st := [.inl (x1), .inr (.inr ((RH x0 8))), .inr (.inr (r3.1)), .inr (.inr (x0))]) rfl rfl rfl ⟨lb rfl, lb rfl, lb rfl, lb rfl⟩ (fun _ h => Ew_le (lb rfl) (s_X10_storedTo (RH x0 8) x1 r4.2 _ h)) (fun _ r5 => ?_)
            show Snd false none _ _ _ (cN iI) (79, [(2, .inr (.inr (r3.1))), (0, .inr (.inr (x0))), (1, .inl (x1))], [.inl (r5.1), .inr (.inr (r3.1)), .inr (.inr (x0))], hp r5.2, 0, 0)
            refine T_cv (i := iU) (as := [.inr (.inr (x0)), .inr (.inr (r3.1)), .inl (r5.1)]) (rest := []) (st := [.inl (r5.1), .inr (.inr (r3.1)), .inr (.inr (x0))]) rfl rfl rfl ⟨lb rfl, lb rfl, lb rfl, lb rfl⟩ (fun _ h => Ew_le (lb rfl) (s_X0_write x0 r3.1 r5.1 r5.2 _ h)) (fun _ r6 => ?_)
            show Snd false none _ _ _ (cN iI) (82, [(2, .inr (.inr (r3.1))), (0, .inr (.inr (x0))), (1, .inl (x1))], [], hp r6.2, 0, 0)
            refine T_loc (ls' := [(0, .inr (.inr (x0))), (1, .inl (x1))]) [1, 2] rfl ?_
            exact (ih.2) x0 x1 r6.2
    · intro x0 x1 σ
      unfold f_X0_endTransaction_L41
      refine T_go (S' := (41, [(1, .inl ((x1 + (1 : Int32)))), (0, .inr (.inr (x0)))], [], hp σ, 0, 0)) 2 rfl ?_
      refine T_loc (ls' := [(0, .inr (.inr (x0))), (1, .inl ((x1 + (1 : Int32))))]) [1, 0] rfl ?_
      exact (ih.1) x0 (x1 + (1 : Int32)) σ
def f_X0_endTransaction (x0 : Nat) (σ : eMem) : Option (Int32 × eMem) :=
  if (KH x0).1 = 0 then
    if (KH (RH x0 8)).1 = 8 then
      if (σ.1 (RH x0 8) 1) = (0 : Int32) then
        if (KH x0).1 = 0 then
          Option.bind (f_X0_askForStoredLines x0 σ) (fun r1 =>
            if r1.1 = (0 : Int32) then
              f_X0_endTransaction_L41 1000000 (.inl (x0, (0 : Int32))) r1.2
            else
              some ((-1 : Int32), r1.2)
            )
        else none
      else
        if (KH x0).1 = 0 then
          if (KH (RH x0 2)).1 = 11 ∧ eix (8 : Int32) (KH (RH x0 2)).2 = true then
            if (KH (RH x0 2)).1 = 11 ∧ eix (8 : Int32) (KH (RH x0 2)).2 = true then eLet ((eup σ.1 (RH x0 2) (8 : Int32).toNatClampNeg ((σ.1 (RH x0 2) (8 : Int32).toNatClampNeg) + (1 : Int32)), σ.2) : eMem) (fun σ2 =>
              if (KH x0).1 = 0 then
                if (KH (RH x0 8)).1 = 8 then
                  Option.bind (f_X10_close (RH x0 8) σ2) (fun r3 =>
                    some ((0 : Int32), r3.2)
                    )
                else none
              else none
              ) else none
          else none
        else none
    else none
  else none
set_option maxHeartbeats 4000000 in
set_option maxRecDepth 20000 in
theorem s_X0_endTransaction (x0 : Nat) (σ : eMem) : ∀ r, f_X0_endTransaction x0 σ = some r → Ew false 6 7 [.inr (.inr (x0))] (hp σ) (cN iI r) := by
  refine T_meth (md := m_X0_endTransaction) (d0 := 5) (cv := (cN iI)) rfl (lb rfl) (lb rfl) ?_
  unfold f_X0_endTransaction
  show Snd false none _ _ _ _ (0, [(0, .inr (.inr (x0)))], [], hp σ, 0, 0)
  refine T_go (S' := (1, [(0, .inr (.inr (x0)))], [.inr (.inr (x0))], hp σ, 0, 0)) 1 rfl ?_
  refine T_getR rfl (fun _ => ?_)
  refine T_getI rfl (fun _ => ?_)
  refine T_if_eq 30 rfl rfl (fun _ => ?_) (fun _ => ?_)
  · refine T_go (S' := (31, [(0, .inr (.inr (x0)))], [.inr (.inr (x0))], hp σ, 0, 0)) 1 rfl ?_
    refine T_cv (i := iI) (as := [.inr (.inr (x0))]) (rest := []) (st := [.inr (.inr (x0))]) rfl rfl rfl ⟨lb rfl, lb rfl, lb rfl, lb rfl⟩ (fun _ h => Ew_le (lb rfl) (s_X0_askForStoredLines x0 σ _ h)) (fun _ r1 => ?_)
    show Snd false none _ _ _ (cN iI) (34, [(0, .inr (.inr (x0)))], [.inl (r1.1)], hp r1.2, 0, 0)
    refine T_if_eq 39 rfl rfl (fun _ => ?_) (fun _ => ?_)
    · refine T_go (S' := (41, [(1, .inl ((0 : Int32))), (0, .inr (.inr (x0)))], [], hp r1.2, 0, 0)) 2 rfl ?_
      refine T_loc (ls' := [(0, .inr (.inr (x0))), (1, .inl ((0 : Int32)))]) [1, 0] rfl ?_
      exact (s_X0_endTransaction_L41 1000000).1 x0 (0 : Int32) r1.2
    · refine T_go (S' := (38, [(0, .inr (.inr (x0)))], [.inl ((-1 : Int32))], hp r1.2, 0, 0)) 1 rfl ?_
      exact T_ret rfl
  · refine T_go (S' := (11, [(0, .inr (.inr (x0)))], [.inr (.inr (x0))], hp σ, 0, 0)) 1 rfl ?_
    refine T_getR rfl (fun _ => ?_)
    refine T_go (S' := (17, [(0, .inr (.inr (x0)))], [.inl ((8 : Int32)), .inr (.inr ((RH x0 2))), .inl ((8 : Int32)), .inr (.inr ((RH x0 2)))], hp σ, 0, 0)) 2 rfl ?_
    refine T_iald rfl (fun _ => ?_)
    refine T_go (S' := (20, [(0, .inr (.inr (x0)))], [.inl (((σ.1 (RH x0 2) (8 : Int32).toNatClampNeg) + (1 : Int32))), .inl ((8 : Int32)), .inr (.inr ((RH x0 2)))], hp σ, 0, 0)) 2 rfl ?_
    refine T_iast rfl (fun _ => ?_)
    refine T_let (Sf := fun σ2 => (21, [(0, .inr (.inr (x0)))], [], hp σ2, 0, 0)) (fun σ2 => ?_)
    refine T_go (S' := (22, [(0, .inr (.inr (x0)))], [.inr (.inr (x0))], hp σ2, 0, 0)) 1 rfl ?_
    refine T_getR rfl (fun _ => ?_)
    refine T_cv (i := iU) (as := [.inr (.inr ((RH x0 8)))]) (rest := []) (st := [.inr (.inr ((RH x0 8)))]) rfl rfl rfl ⟨lb rfl, lb rfl, lb rfl, lb rfl⟩ (fun _ h => Ew_le (lb rfl) (s_X10_close (RH x0 8) σ2 _ h)) (fun _ r3 => ?_)
    show Snd false none _ _ _ (cN iI) (28, [(0, .inr (.inr (x0)))], [], hp r3.2, 0, 0)
    refine T_go (S' := (29, [(0, .inr (.inr (x0)))], [.inl ((0 : Int32))], hp r3.2, 0, 0)) 1 rfl ?_
    exact T_ret rfl
def f_X0_receiveKill_42 (x0 : Nat) (x1 : Int32) (σ : eMem) : Option (Unit × eMem) :=
  if (KH x0).1 = 0 then
    Option.bind (f_X0_send x0 (2 : Int32) (10 : Int32) x1 (-1 : Int32) σ) (fun r1 =>
      some ((), r1.2)
      )
  else none
set_option maxHeartbeats 4000000 in
set_option maxRecDepth 20000 in
theorem s_X0_receiveKill_42 (x0 : Nat) (x1 : Int32) (σ : eMem) : Snd false none 2 m_X0_receiveKill (f_X0_receiveKill_42 x0 x1 σ) (cN iU) (42, [(0, .inr (.inr (x0))), (1, .inl (x1))], [], hp σ, 0, 0) := by
  unfold f_X0_receiveKill_42
  refine T_go (S' := (48, [(0, .inr (.inr (x0))), (1, .inl (x1))], [.inl ((-1 : Int32)), .inl (x1), .inl ((10 : Int32)), .inl ((2 : Int32)), .inr (.inr (x0))], hp σ, 0, 0)) 5 rfl ?_
  refine T_cv (i := iU) (as := [.inr (.inr (x0)), .inl ((2 : Int32)), .inl ((10 : Int32)), .inl (x1), .inl ((-1 : Int32))]) (rest := []) (st := [.inl ((-1 : Int32)), .inl (x1), .inl ((10 : Int32)), .inl ((2 : Int32)), .inr (.inr (x0))]) rfl rfl rfl ⟨lb rfl, lb rfl, lb rfl, lb rfl⟩ (fun _ h => Ew_le (lb rfl) (s_X0_send x0 (2 : Int32) (10 : Int32) x1 (-1 : Int32) σ _ h)) (fun _ r1 => ?_)
  show Snd false none _ _ _ (cN iU) (51, [(0, .inr (.inr (x0))), (1, .inl (x1))], [], hp r1.2, 0, 0)
  exact T_ret rfl
def f_X0_receiveKill_25 (x0 : Nat) (x1 : Int32) (x2 : Nat) (σ : eMem) : Option (Unit × eMem) :=
  if x2 = 0 then
    f_X0_receiveKill_42 x0 x1 σ
  else
    if (KH x2).1 = 6 then
      if ¬ (σ.1 x2 1) = (4 : Int32) then
        f_X0_receiveKill_42 x0 x1 σ
      else
        if (KH x2).1 = 6 ∧ eB (1 : Int32) = true then eLet ((eup σ.1 x2 4 (1 : Int32), σ.2) : eMem) (fun σ1 =>
          f_X0_receiveKill_42 x0 x1 σ1
          ) else none
    else none
set_option maxHeartbeats 4000000 in
set_option maxRecDepth 20000 in
theorem s_X0_receiveKill_25 (x0 : Nat) (x1 : Int32) (x2 : Nat) (σ : eMem) : Snd false none 2 m_X0_receiveKill (f_X0_receiveKill_25 x0 x1 x2 σ) (cN iU) (25, [(0, .inr (.inr (x0))), (1, .inl (x1)), (2, .inr (.inr (x2)))], [], hp σ, 0, 0) := by
  unfold f_X0_receiveKill_25
  refine T_go (S' := (26, [(0, .inr (.inr (x0))), (1, .inl (x1)), (2, .inr (.inr (x2)))], [.inr (.inr (x2))], hp σ, 0, 0)) 1 rfl ?_
  refine T_ifnull 42 rfl rfl (fun _ => ?_) (fun _ => ?_)
  · refine T_loc (ls' := [(0, .inr (.inr (x0))), (1, .inl (x1))]) [0, 1] rfl ?_
    exact s_X0_receiveKill_42 x0 x1 σ
  · refine T_go (S' := (30, [(0, .inr (.inr (x0))), (1, .inl (x1)), (2, .inr (.inr (x2)))], [.inr (.inr (x2))], hp σ, 0, 0)) 1 rfl ?_
    refine T_getI rfl (fun _ => ?_)
    refine T_go (S' := (34, [(0, .inr (.inr (x0))), (1, .inl (x1)), (2, .inr (.inr (x2)))], [.inl ((4 : Int32)), .inl ((σ.1 x2 1))], hp σ, 0, 0)) 1 rfl ?_
    refine T_icmp_ne 42 rfl rfl (fun _ => ?_) (fun _ => ?_)
    · refine T_loc (ls' := [(0, .inr (.inr (x0))), (1, .inl (x1))]) [0, 1] rfl ?_
      exact s_X0_receiveKill_42 x0 x1 σ
    · refine T_go (S' := (39, [(0, .inr (.inr (x0))), (1, .inl (x1)), (2, .inr (.inr (x2)))], [.inl ((1 : Int32)), .inr (.inr (x2))], hp σ, 0, 0)) 2 rfl ?_
      refine T_putZ rfl (fun _ => ?_)
      refine T_let (Sf := fun σ1 => (42, [(0, .inr (.inr (x0))), (1, .inl (x1)), (2, .inr (.inr (x2)))], [], hp σ1, 0, 0)) (fun σ1 => ?_)
      refine T_loc (ls' := [(0, .inr (.inr (x0))), (1, .inl (x1))]) [0, 1] rfl ?_
      exact s_X0_receiveKill_42 x0 x1 σ1
def f_X0_receiveKill (x0 : Nat) (x1 : Int32) (σ : eMem) : Option (Unit × eMem) :=
  if (KH x0).1 = 0 then
    Option.bind (f_X0_placeOf x0 x1 σ) (fun r1 =>
      if r1.1 = 0 then
        f_X0_receiveKill_25 x0 x1 r1.1 r1.2
      else
        if (KH r1.1).1 = 6 then
          if ¬ (r1.2.1 r1.1 1) = (1 : Int32) then
            f_X0_receiveKill_25 x0 x1 r1.1 r1.2
          else
            if (KH r1.1).1 = 6 then
              Option.bind (f_X7_becomeEmpty r1.1 r1.2) (fun r2 =>
                f_X0_receiveKill_42 x0 x1 r2.2
                )
            else none
        else none
      )
  else none
set_option maxHeartbeats 4000000 in
set_option maxRecDepth 20000 in
theorem s_X0_receiveKill (x0 : Nat) (x1 : Int32) (σ : eMem) : ∀ r, f_X0_receiveKill x0 x1 σ = some r → Ew false 3 20 [.inr (.inr (x0)), .inl (x1)] (hp σ) (cN iU r) := by
  refine T_meth (md := m_X0_receiveKill) (d0 := 2) (cv := (cN iU)) rfl (lb rfl) (lb rfl) ?_
  unfold f_X0_receiveKill
  show Snd false none _ _ _ _ (0, [(0, .inr (.inr (x0))), (1, .inl (x1))], [], hp σ, 0, 0)
  refine T_go (S' := (2, [(0, .inr (.inr (x0))), (1, .inl (x1))], [.inl (x1), .inr (.inr (x0))], hp σ, 0, 0)) 2 rfl ?_
  refine T_cv (i := iR) (as := [.inr (.inr (x0)), .inl (x1)]) (rest := []) (st := [.inl (x1), .inr (.inr (x0))]) rfl rfl rfl ⟨lb rfl, lb rfl, lb rfl, lb rfl⟩ (fun _ h => Ew_le (lb rfl) (s_X0_placeOf x0 x1 σ _ h)) (fun _ r1 => ?_)
  show Snd false none _ _ _ (cN iU) (5, [(0, .inr (.inr (x0))), (1, .inl (x1))], [.inr (.inr (r1.1))], hp r1.2, 0, 0)
  refine T_go (S' := (7, [(2, .inr (.inr (r1.1))), (0, .inr (.inr (x0))), (1, .inl (x1))], [.inr (.inr (r1.1))], hp r1.2, 0, 0)) 2 rfl ?_
  refine T_ifnull 25 rfl rfl (fun _ => ?_) (fun _ => ?_)
  · refine T_loc (ls' := [(0, .inr (.inr (x0))), (1, .inl (x1)), (2, .inr (.inr (r1.1)))]) [1, 2, 0] rfl ?_
    exact s_X0_receiveKill_25 x0 x1 r1.1 r1.2
  · refine T_go (S' := (11, [(2, .inr (.inr (r1.1))), (0, .inr (.inr (x0))), (1, .inl (x1))], [.inr (.inr (r1.1))], hp r1.2, 0, 0)) 1 rfl ?_
    refine T_getI rfl (fun _ => ?_)
    refine T_go (S' := (15, [(2, .inr (.inr (r1.1))), (0, .inr (.inr (x0))), (1, .inl (x1))], [.inl ((1 : Int32)), .inl ((r1.2.1 r1.1 1))], hp r1.2, 0, 0)) 1 rfl ?_
    refine T_icmp_ne 25 rfl rfl (fun _ => ?_) (fun _ => ?_)
    · refine T_loc (ls' := [(0, .inr (.inr (x0))), (1, .inl (x1)), (2, .inr (.inr (r1.1)))]) [1, 2, 0] rfl ?_
      exact s_X0_receiveKill_25 x0 x1 r1.1 r1.2
    · refine T_go (S' := (19, [(2, .inr (.inr (r1.1))), (0, .inr (.inr (x0))), (1, .inl (x1))], [.inr (.inr (r1.1))], hp r1.2, 0, 0)) 1 rfl ?_
      refine T_cv (i := iU) (as := [.inr (.inr (r1.1))]) (rest := []) (st := [.inr (.inr (r1.1))]) rfl rfl rfl ⟨lb rfl, lb rfl, lb rfl, lb rfl⟩ (fun _ h => Ew_le (lb rfl) (s_X7_becomeEmpty r1.1 r1.2 _ h)) (fun _ r2 => ?_)
      show Snd false none _ _ _ (cN iU) (22, [(2, .inr (.inr (r1.1))), (0, .inr (.inr (x0))), (1, .inl (x1))], [], hp r2.2, 0, 0)
      refine T_go (S' := (42, [(2, .inr (.inr (r1.1))), (0, .inr (.inr (x0))), (1, .inl (x1))], [], hp r2.2, 0, 0)) 1 rfl ?_
      refine T_loc (ls' := [(0, .inr (.inr (x0))), (1, .inl (x1))]) [1, 2] rfl ?_
      exact s_X0_receiveKill_42 x0 x1 r2.2
def f_X7_waits_21 (s0 : Int32) (σ : eMem) : Option (Int32 × eMem) :=
  if eB s0 = true then some (s0, σ) else none
set_option maxHeartbeats 4000000 in
set_option maxRecDepth 20000 in
theorem s_X7_waits_21 (s0 : Int32) (σ : eMem) : Snd false none 0 m_X7_waits (f_X7_waits_21 s0 σ) (cN iI) (21, [], [.inl (s0)], hp σ, 0, 0) := by
  unfold f_X7_waits_21
  exact T_chkr rfl
def f_X7_waits_16  (σ : eMem) : Option (Int32 × eMem) :=
  f_X7_waits_21 (1 : Int32) σ
set_option maxHeartbeats 4000000 in
set_option maxRecDepth 20000 in
theorem s_X7_waits_16  (σ : eMem) : Snd false none 0 m_X7_waits (f_X7_waits_16 σ) (cN iI) (16, [], [], hp σ, 0, 0) := by
  unfold f_X7_waits_16
  refine T_go (S' := (21, [], [.inl ((1 : Int32))], hp σ, 0, 0)) 2 rfl ?_
  refine T_loc (ls' := []) [] rfl ?_
  exact s_X7_waits_21 (1 : Int32) σ
def f_X7_waits (x0 : Nat) (σ : eMem) : Option (Int32 × eMem) :=
  if (KH x0).1 = 6 then
    if (σ.1 x0 1) = (4 : Int32) then
      f_X7_waits_16  σ
    else
      if (KH x0).1 = 6 then
        if ¬ (σ.1 x0 1) = (5 : Int32) then
          f_X7_waits_21 (0 : Int32) σ
        else
          f_X7_waits_16  σ
      else none
  else none
set_option maxHeartbeats 4000000 in
set_option maxRecDepth 20000 in
theorem s_X7_waits (x0 : Nat) (σ : eMem) : ∀ r, f_X7_waits x0 σ = some r → Ew false 1 66 [.inr (.inr (x0))] (hp σ) (cN iI r) := by
  refine T_meth (md := m_X7_waits) (d0 := 0) (cv := (cN iI)) rfl (lb rfl) (lb rfl) ?_
  unfold f_X7_waits
  show Snd false none _ _ _ _ (0, [(0, .inr (.inr (x0)))], [], hp σ, 0, 0)
  refine T_go (S' := (1, [(0, .inr (.inr (x0)))], [.inr (.inr (x0))], hp σ, 0, 0)) 1 rfl ?_
  refine T_getI rfl (fun _ => ?_)
  refine T_go (S' := (5, [(0, .inr (.inr (x0)))], [.inl ((4 : Int32)), .inl ((σ.1 x0 1))], hp σ, 0, 0)) 1 rfl ?_
  refine T_icmp_eq 16 rfl rfl (fun _ => ?_) (fun _ => ?_)
  · refine T_loc (ls' := []) [] rfl ?_
    exact s_X7_waits_16  σ
  · refine T_go (S' := (9, [(0, .inr (.inr (x0)))], [.inr (.inr (x0))], hp σ, 0, 0)) 1 rfl ?_
    refine T_getI rfl (fun _ => ?_)
    refine T_go (S' := (13, [(0, .inr (.inr (x0)))], [.inl ((5 : Int32)), .inl ((σ.1 x0 1))], hp σ, 0, 0)) 1 rfl ?_
    refine T_icmp_ne 20 rfl rfl (fun _ => ?_) (fun _ => ?_)
    · refine T_go (S' := (21, [(0, .inr (.inr (x0)))], [.inl ((0 : Int32))], hp σ, 0, 0)) 1 rfl ?_
      refine T_loc (ls' := []) [] rfl ?_
      exact s_X7_waits_21 (0 : Int32) σ
    · refine T_loc (ls' := []) [] rfl ?_
      exact s_X7_waits_16  σ
