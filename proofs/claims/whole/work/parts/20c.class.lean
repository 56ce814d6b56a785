/-! what the methods do -/
def f_X0_giveUp_92  (σ : eMem) : Option (Unit × eMem) :=
  some ((), σ)
set_option maxHeartbeats 4000000 in
set_option maxRecDepth 20000 in
theorem s_X0_giveUp_92  (σ : eMem) : Snd false none 2 m_X0_giveUp (f_X0_giveUp_92 σ) (cN iU) (92, [], [], hp σ, 0, 0) := by
  unfold f_X0_giveUp_92
  exact T_ret rfl
def f_X0_giveUp_68 (x0 : Nat) (x2 : Int32) (σ : eMem) : Option (Unit × eMem) :=
  if (KH x0).1 = 0 then
    if (KH (RH x0 4)).1 = 11 ∧ eix x2 (KH (RH x0 4)).2 = true then
      if (σ.1 (RH x0 4) x2.toNatClampNeg) = (-1 : Int32) then
        f_X0_giveUp_92  σ
      else
        if (KH x0).1 = 0 then
          if (KH (RH x0 4)).1 = 11 ∧ eix x2 (KH (RH x0 4)).2 = true then
            if (KH x0).1 = 0 then
              Option.bind (f_X0_send x0 (2 : Int32) (10 : Int32) x2 (σ.1 (RH x0 4) x2.toNatClampNeg) σ) (fun r1 =>
                f_X0_giveUp_92  r1.2
                )
            else none
          else none
        else none
    else none
  else none
set_option maxHeartbeats 4000000 in
set_option maxRecDepth 20000 in
theorem s_X0_giveUp_68 (x0 : Nat) (x2 : Int32) (σ : eMem) : Snd false none 2 m_X0_giveUp (f_X0_giveUp_68 x0 x2 σ) (cN iU) (68, [(0, .inr (.inr (x0))), (2, .inl (x2))], [], hp σ, 0, 0) := by
  unfold f_X0_giveUp_68
  refine T_go (S' := (69, [(0, .inr (.inr (x0))), (2, .inl (x2))], [.inr (.inr (x0))], hp σ, 0, 0)) 1 rfl ?_
  refine T_getR rfl (fun _ => ?_)
  refine T_go (S' := (73, [(0, .inr (.inr (x0))), (2, .inl (x2))], [.inl (x2), .inr (.inr ((RH x0 4)))], hp σ, 0, 0)) 1 rfl ?_
  refine T_iald rfl (fun _ => ?_)
  refine T_go (S' := (75, [(0, .inr (.inr (x0))), (2, .inl (x2))], [.inl ((-1 : Int32)), .inl ((σ.1 (RH x0 4) x2.toNatClampNeg))], hp σ, 0, 0)) 1 rfl ?_
  refine T_icmp_eq 92 rfl rfl (fun _ => ?_) (fun _ => ?_)
  · refine T_loc (ls' := []) [] rfl ?_
    exact s_X0_giveUp_92  σ
  · refine T_go (S' := (84, [(0, .inr (.inr (x0))), (2, .inl (x2))], [.inr (.inr (x0)), .inl (x2), .inl ((10 : Int32)), .inl ((2 : Int32)), .inr (.inr (x0))], hp σ, 0, 0)) 5 rfl ?_
    refine T_getR rfl (fun _ => ?_)
    refine T_go (S' := (88, [(0, .inr (.inr (x0))), (2, .inl (x2))], [.inl (x2), .inr (.inr ((RH x0 4))), .inl (x2), .inl ((10 : Int32)), .inl ((2 : Int32)), .inr (.inr (x0))], hp σ, 0, 0)) 1 rfl ?_
    refine T_iald rfl (fun _ => ?_)
    refine T_cv (i := iU) (as := [.inr (.inr (x0)), .inl ((2 : Int32)), .inl ((10 : Int32)), .inl (x2), .inl ((σ.1 (RH x0 4) x2.toNatClampNeg))]) (rest := []) (st := [.inl ((σ.1 (RH x0 4) x2.toNatClampNeg)), .inl (x2), .inl ((10 : Int32)), .inl ((2 : Int32)), .inr (.inr (x0))]) rfl rfl rfl ⟨lb rfl, lb rfl, lb rfl, lb rfl⟩ (fun _ h => Ew_le (lb rfl) (s_X0_send x0 (2 : Int32) (10 : Int32) x2 (σ.1 (RH x0 4) x2.toNatClampNeg) σ _ h)) (fun _ r1 => ?_)
    show Snd false none _ _ _ (cN iU) (92, [(0, .inr (.inr (x0))), (2, .inl (x2))], [], hp r1.2, 0, 0)
    refine T_loc (ls' := []) [] rfl ?_
    exact s_X0_giveUp_92  r1.2
def f_X0_giveUp_25 (x0 : Nat) (x1 : Int32) (x2 : Int32) (x3 : Nat) (σ : eMem) : Option (Unit × eMem) :=
  if x3 = 0 then
    f_X0_giveUp_68 x0 x2 σ
  else
    if (KH x3).1 = 6 then
      Option.bind (f_X7_mayBeWritten x3 σ) (fun r1 =>
        if r1.1 = (0 : Int32) then
          f_X0_giveUp_68 x0 x2 r1.2
        else
          if (KH x3).1 = 6 then
            if (KH x0).1 = 0 then
              Option.bind (f_X0_send x0 (2 : Int32) (10 : Int32) x2 (r1.2.1 x3 2) r1.2) (fun r2 =>
                if ¬ x1 = (4 : Int32) then
                  if (KH x3).1 = 6 then
                    Option.bind (f_X7_becomeEmpty x3 r2.2) (fun r3 =>
                      f_X0_giveUp_92  r3.2
                      )
                  else none
                else
                  if (KH x3).1 = 6 then eLet ((eup r2.2.1 x3 1 (1 : Int32), r2.2.2) : eMem) (fun σ4 =>
                    f_X0_giveUp_92  σ4
                    ) else none
                )
            else none
          else none
        )
    else none
set_option maxHeartbeats 4000000 in
set_option maxRecDepth 20000 in
theorem s_X0_giveUp_25 (x0 : Nat) (x1 : Int32) (x2 : Int32) (x3 : Nat) (σ : eMem) : Snd false none 2 m_X0_giveUp (f_X0_giveUp_25 x0 x1 x2 x3 σ) (cN iU) (25, [(0, .inr (.inr (x0))), (1, .inl (x1)), (2, .inl (x2)), (3, .inr (.inr (x3)))], [], hp σ, 0, 0) := by
  unfold f_X0_giveUp_25
  refine T_go (S' := (26, [(0, .inr (.inr (x0))), (1, .inl (x1)), (2, .inl (x2)), (3, .inr (.inr (x3)))], [.inr (.inr (x3))], hp σ, 0, 0)) 1 rfl ?_
  refine T_ifnull 68 rfl rfl (fun _ => ?_) (fun _ => ?_)
  · refine T_loc (ls' := [(0, .inr (.inr (x0))), (2, .inl (x2))]) [0, 2] rfl ?_
    exact s_X0_giveUp_68 x0 x2 σ
  · refine T_go (S' := (30, [(0, .inr (.inr (x0))), (1, .inl (x1)), (2, .inl (x2)), (3, .inr (.inr (x3)))], [.inr (.inr (x3))], hp σ, 0, 0)) 1 rfl ?_
    refine T_cv (i := iI) (as := [.inr (.inr (x3))]) (rest := []) (st := [.inr (.inr (x3))]) rfl rfl rfl ⟨lb rfl, lb rfl, lb rfl, lb rfl⟩ (fun _ h => Ew_le (lb rfl) (s_X7_mayBeWritten x3 σ _ h)) (fun _ r1 => ?_)
    show Snd false none _ _ _ (cN iU) (33, [(0, .inr (.inr (x0))), (1, .inl (x1)), (2, .inl (x2)), (3, .inr (.inr (x3)))], [.inl (r1.1)], hp r1.2, 0, 0)
    refine T_if_eq 68 rfl rfl (fun _ => ?_) (fun _ => ?_)
    · refine T_loc (ls' := [(0, .inr (.inr (x0))), (2, .inl (x2))]) [0, 2] rfl ?_
      exact s_X0_giveUp_68 x0 x2 r1.2
    · refine T_go (S' := (42, [(0, .inr (.inr (x0))), (1, .inl (x1)), (2, .inl (x2)), (3, .inr (.inr (x3)))], [.inr (.inr (x3)), .inl (x2), .inl ((10 : Int32)), .inl ((2 : Int32)), .inr (.inr (x0))], hp r1.2, 0, 0)) 5 rfl ?_
      refine T_getI rfl (fun _ => ?_)
      refine T_cv (i := iU) (as := [.inr (.inr (x0)), .inl ((2 : Int32)), .inl ((10 : Int32)), .inl (x2), .inl ((r1.2.1 x3 2))]) (rest := []) (st := [.inl ((r1.2.1 x3 2)), .inl (x2), .inl ((10 : Int32)), .inl ((2 : Int32)), .inr (.inr (x0))]) rfl rfl rfl ⟨lb rfl, lb rfl, lb rfl, lb rfl⟩ (fun _ h => Ew_le (lb rfl) (s_X0_send x0 (2 : Int32) (10 : Int32) x2 (r1.2.1 x3 2) r1.2 _ h)) (fun _ r2 => ?_)
      show Snd false none _ _ _ (cN iU) (48, [(0, .inr (.inr (x0))), (1, .inl (x1)), (2, .inl (x2)), (3, .inr (.inr (x3)))], [], hp r2.2, 0, 0)
      refine T_go (S' := (50, [(0, .inr (.inr (x0))), (1, .inl (x1)), (2, .inl (x2)), (3, .inr (.inr (x3)))], [.inl ((4 : Int32)), .inl (x1)], hp r2.2, 0, 0)) 2 rfl ?_
      refine T_icmp_ne 61 rfl rfl (fun _ => ?_) (fun _ => ?_)
      · refine T_go (S' := (62, [(0, .inr (.inr (x0))), (1, .inl (x1)), (2, .inl (x2)), (3, .inr (.inr (x3)))], [.inr (.inr (x3))], hp r2.2, 0, 0)) 1 rfl ?_
        refine T_cv (i := iU) (as := [.inr (.inr (x3))]) (rest := []) (st := [.inr (.inr (x3))]) rfl rfl rfl ⟨lb rfl, lb rfl, lb rfl, lb rfl⟩ (fun _ h => Ew_le (lb rfl) (s_X7_becomeEmpty x3 r2.2 _ h)) (fun _ r3 => ?_)
        show Snd false none _ _ _ (cN iU) (65, [(0, .inr (.inr (x0))), (1, .inl (x1)), (2, .inl (x2)), (3, .inr (.inr (x3)))], [], hp r3.2, 0, 0)
        refine T_go (S' := (92, [(0, .inr (.inr (x0))), (1, .inl (x1)), (2, .inl (x2)), (3, .inr (.inr (x3)))], [], hp r3.2, 0, 0)) 1 rfl ?_
        refine T_loc (ls' := []) [] rfl ?_
        exact s_X0_giveUp_92  r3.2
      · refine T_go (S' := (55, [(0, .inr (.inr (x0))), (1, .inl (x1)), (2, .inl (x2)), (3, .inr (.inr (x3)))], [.inl ((1 : Int32)), .inr (.inr (x3))], hp r2.2, 0, 0)) 2 rfl ?_
        refine T_putI rfl (fun _ => ?_)
        refine T_let (Sf := fun σ4 => (58, [(0, .inr (.inr (x0))), (1, .inl (x1)), (2, .inl (x2)), (3, .inr (.inr (x3)))], [], hp σ4, 0, 0)) (fun σ4 => ?_)
        refine T_go (S' := (92, [(0, .inr (.inr (x0))), (1, .inl (x1)), (2, .inl (x2)), (3, .inr (.inr (x3)))], [], hp σ4, 0, 0)) 1 rfl ?_
        refine T_loc (ls' := []) [] rfl ?_
        exact s_X0_giveUp_92  σ4
def f_X0_giveUp (x0 : Nat) (x1 : Int32) (x2 : Int32) (σ : eMem) : Option (Unit × eMem) :=
  if (KH x0).1 = 0 then
    Option.bind (f_X0_placeOf x0 x2 σ) (fun r1 =>
      if r1.1 = 0 then
        f_X0_giveUp_25 x0 x1 x2 r1.1 r1.2
      else
        if (KH r1.1).1 = 6 then
          Option.bind (f_X7_waits r1.1 r1.2) (fun r2 =>
            if r2.1 = (0 : Int32) then
              f_X0_giveUp_25 x0 x1 x2 r1.1 r2.2
            else
              if (KH r1.1).1 = 6 then eLet ((eup r2.2.1 r1.1 5 x1, r2.2.2) : eMem) (fun σ3 =>
                f_X0_giveUp_92  σ3
                ) else none
            )
        else none
      )
  else none
set_option maxHeartbeats 4000000 in
set_option maxRecDepth 20000 in
theorem s_X0_giveUp (x0 : Nat) (x1 : Int32) (x2 : Int32) (σ : eMem) : ∀ r, f_X0_giveUp x0 x1 x2 σ = some r → Ew false 3 21 [.inr (.inr (x0)), .inl (x1), .inl (x2)] (hp σ) (cN iU r) := by
  refine T_meth (md := m_X0_giveUp) (d0 := 2) (cv := (cN iU)) rfl (lb rfl) (lb rfl) ?_
  unfold f_X0_giveUp
  show Snd false none _ _ _ _ (0, [(0, .inr (.inr (x0))), (1, .inl (x1)), (2, .inl (x2))], [], hp σ, 0, 0)
  refine T_go (S' := (2, [(0, .inr (.inr (x0))), (1, .inl (x1)), (2, .inl (x2))], [.inl (x2), .inr (.inr (x0))], hp σ, 0, 0)) 2 rfl ?_
  refine T_cv (i := iR) (as := [.inr (.inr (x0)), .inl (x2)]) (rest := []) (st := [.inl (x2), .inr (.inr (x0))]) rfl rfl rfl ⟨lb rfl, lb rfl, lb rfl, lb rfl⟩ (fun _ h => Ew_le (lb rfl) (s_X0_placeOf x0 x2 σ _ h)) (fun _ r1 => ?_)
  show Snd false none _ _ _ (cN iU) (5, [(0, .inr (.inr (x0))), (1, .inl (x1)), (2, .inl (x2))], [.inr (.inr (r1.1))], hp r1.2, 0, 0)
  refine T_go (S' := (7, [(3, .inr (.inr (r1.1))), (0, .inr (.inr (x0))), (1, .inl (x1)), (2, .inl (x2))], [.inr (.inr (r1.1))], hp r1.2, 0, 0)) 2 rfl ?_
  refine T_ifnull 25 rfl rfl (fun _ => ?_) (fun _ => ?_)
  · refine T_loc (ls' := [(0, .inr (.inr (x0))), (1, .inl (x1)), (2, .inl (x2)), (3, .inr (.inr (r1.1)))]) [1, 2, 3, 0] rfl ?_
    exact s_X0_giveUp_25 x0 x1 x2 r1.1 r1.2
  · refine T_go (S' := (11, [(3, .inr (.inr (r1.1))), (0, .inr (.inr (x0))), (1, .inl (x1)), (2, .inl (x2))], [.inr (.inr (r1.1))], hp r1.2, 0, 0)) 1 rfl ?_
    refine T_cv (i := iI) (as := [.inr (.inr (r1.1))]) (rest := []) (st := [.inr (.inr (r1.1))]) rfl rfl rfl ⟨lb rfl, lb rfl, lb rfl, lb rfl⟩ (fun _ h => Ew_le (lb rfl) (s_X7_waits r1.1 r1.2 _ h)) (fun _ r2 => ?_)
    show Snd false none _ _ _ (cN iU) (14, [(3, .inr (.inr (r1.1))), (0, .inr (.inr (x0))), (1, .inl (x1)), (2, .inl (x2))], [.inl (r2.1)], hp r2.2, 0, 0)
    refine T_if_eq 25 rfl rfl (fun _ => ?_) (fun _ => ?_)
    · refine T_loc (ls' := [(0, .inr (.inr (x0))), (1, .inl (x1)), (2, .inl (x2)), (3, .inr (.inr (r1.1)))]) [1, 2, 3, 0] rfl ?_
      exact s_X0_giveUp_25 x0 x1 x2 r1.1 r2.2
    · refine T_go (S' := (19, [(3, .inr (.inr (r1.1))), (0, .inr (.inr (x0))), (1, .inl (x1)), (2, .inl (x2))], [.inl (x1), .inr (.inr (r1.1))], hp r2.2, 0, 0)) 2 rfl ?_
      refine T_putI rfl (fun _ => ?_)
      refine T_let (Sf := fun σ3 => (22, [(3, .inr (.inr (r1.1))), (0, .inr (.inr (x0))), (1, .inl (x1)), (2, .inl (x2))], [], hp σ3, 0, 0)) (fun σ3 => ?_)
      refine T_go (S' := (92, [(3, .inr (.inr (r1.1))), (0, .inr (.inr (x0))), (1, .inl (x1)), (2, .inl (x2))], [], hp σ3, 0, 0)) 1 rfl ?_
      refine T_loc (ls' := []) [] rfl ?_
      exact s_X0_giveUp_92  σ3
def f_X7_fill (x0 : Nat) (x1 : Int32) (x2 : Int32) (σ : eMem) : Option (Unit × eMem) :=
  if (KH x0).1 = 6 then eLet ((eup σ.1 x0 1 x1, σ.2) : eMem) (fun σ1 =>
    if (KH x0).1 = 6 then eLet ((eup σ1.1 x0 2 x2, σ1.2) : eMem) (fun σ2 =>
      some ((), σ2)
      ) else none
    ) else none
set_option maxHeartbeats 4000000 in
set_option maxRecDepth 20000 in
theorem s_X7_fill (x0 : Nat) (x1 : Int32) (x2 : Int32) (σ : eMem) : ∀ r, f_X7_fill x0 x1 x2 σ = some r → Ew false 1 71 [.inr (.inr (x0)), .inl (x1), .inl (x2)] (hp σ) (cN iU r) := by
  refine T_meth (md := m_X7_fill) (d0 := 0) (cv := (cN iU)) rfl (lb rfl) (lb rfl) ?_
  unfold f_X7_fill
  show Snd false none _ _ _ _ (0, [(0, .inr (.inr (x0))), (1, .inl (x1)), (2, .inl (x2))], [], hp σ, 0, 0)
  refine T_go (S' := (2, [(0, .inr (.inr (x0))), (1, .inl (x1)), (2, .inl (x2))], [.inl (x1), .inr (.inr (x0))], hp σ, 0, 0)) 2 rfl ?_
  refine T_putI rfl (fun _ => ?_)
  refine T_let (Sf := fun σ1 => (5, [(0, .inr (.inr (x0))), (1, .inl (x1)), (2, .inl (x2))], [], hp σ1, 0, 0)) (fun σ1 => ?_)
  refine T_go (S' := (7, [(0, .inr (.inr (x0))), (1, .inl (x1)), (2, .inl (x2))], [.inl (x2), .inr (.inr (x0))], hp σ1, 0, 0)) 2 rfl ?_
  refine T_putI rfl (fun _ => ?_)
  refine T_let (Sf := fun σ2 => (10, [(0, .inr (.inr (x0))), (1, .inl (x1)), (2, .inl (x2))], [], hp σ2, 0, 0)) (fun σ2 => ?_)
  exact T_ret rfl
def f_X0_receiveData_20  (σ : eMem) : Option (Unit × eMem) :=
  some ((), σ)
set_option maxHeartbeats 4000000 in
set_option maxRecDepth 20000 in
theorem s_X0_receiveData_20  (σ : eMem) : Snd false none 3 m_X0_receiveData (f_X0_receiveData_20 σ) (cN iU) (20, [], [], hp σ, 0, 0) := by
  unfold f_X0_receiveData_20
  exact T_ret rfl
def f_X0_receiveData_73  (σ : eMem) : Option (Unit × eMem) :=
  some ((), σ)
set_option maxHeartbeats 4000000 in
set_option maxRecDepth 20000 in
theorem s_X0_receiveData_73  (σ : eMem) : Snd false none 3 m_X0_receiveData (f_X0_receiveData_73 σ) (cN iU) (73, [], [], hp σ, 0, 0) := by
  unfold f_X0_receiveData_73
  exact T_ret rfl
def f_X0_receiveData_55 (x0 : Nat) (x2 : Int32) (x4 : Nat) (σ : eMem) : Option (Unit × eMem) :=
  if (KH x4).1 = 6 then
    if (σ.1 x4 5) = (0 : Int32) then
      f_X0_receiveData_73  σ
    else
      if (KH x4).1 = 6 then
        if (KH x0).1 = 0 then
          Option.bind (f_X0_giveUp x0 (σ.1 x4 5) x2 σ) (fun r1 =>
            f_X0_receiveData_73  r1.2
            )
        else none
      else none
  else none
set_option maxHeartbeats 4000000 in
set_option maxRecDepth 20000 in
theorem s_X0_receiveData_55 (x0 : Nat) (x2 : Int32) (x4 : Nat) (σ : eMem) : Snd false none 3 m_X0_receiveData (f_X0_receiveData_55 x0 x2 x4 σ) (cN iU) (55, [(0, .inr (.inr (x0))), (2, .inl (x2)), (4, .inr (.inr (x4)))], [], hp σ, 0, 0) := by
  unfold f_X0_receiveData_55
  refine T_go (S' := (57, [(0, .inr (.inr (x0))), (2, .inl (x2)), (4, .inr (.inr (x4)))], [.inr (.inr (x4))], hp σ, 0, 0)) 1 rfl ?_
  refine T_getI rfl (fun _ => ?_)
  refine T_if_eq 73 rfl rfl (fun _ => ?_) (fun _ => ?_)
  · refine T_loc (ls' := []) [] rfl ?_
    exact s_X0_receiveData_73  σ
  · refine T_go (S' := (66, [(0, .inr (.inr (x0))), (2, .inl (x2)), (4, .inr (.inr (x4)))], [.inr (.inr (x4)), .inr (.inr (x0))], hp σ, 0, 0)) 2 rfl ?_
    refine T_getI rfl (fun _ => ?_)
    refine T_go (S' := (70, [(0, .inr (.inr (x0))), (2, .inl (x2)), (4, .inr (.inr (x4)))], [.inl (x2), .inl ((σ.1 x4 5)), .inr (.inr (x0))], hp σ, 0, 0)) 1 rfl ?_
    refine T_cv (i := iU) (as := [.inr (.inr (x0)), .inl ((σ.1 x4 5)), .inl (x2)]) (rest := []) (st := [.inl (x2), .inl ((σ.1 x4 5)), .inr (.inr (x0))]) rfl rfl rfl ⟨lb rfl, lb rfl, lb rfl, lb rfl⟩ (fun _ h => Ew_le (lb rfl) (s_X0_giveUp x0 (σ.1 x4 5) x2 σ _ h)) (fun _ r1 => ?_)
    show Snd false none _ _ _ (cN iU) (73, [(0, .inr (.inr (x0))), (2, .inl (x2)), (4, .inr (.inr (x4)))], [], hp r1.2, 0, 0)
    refine T_loc (ls' := []) [] rfl ?_
    exact s_X0_receiveData_73  r1.2
def f_X0_receiveData_42 (x0 : Nat) (x1 : Int32) (x2 : Int32) (x3 : Int32) (x4 : Nat) (σ : eMem) : Option (Unit × eMem) :=
  if (KH x4).1 = 6 then
    Option.bind (f_X7_fill x4 x1 x3 σ) (fun r1 =>
      if (KH x0).1 = 0 then
        Option.bind (f_X0_use x0 x4 r1.2) (fun r2 =>
          f_X0_receiveData_55 x0 x2 x4 r2.2
          )
      else none
      )
  else none
set_option maxHeartbeats 4000000 in
set_option maxRecDepth 20000 in
theorem s_X0_receiveData_42 (x0 : Nat) (x1 : Int32) (x2 : Int32) (x3 : Int32) (x4 : Nat) (σ : eMem) : Snd false none 3 m_X0_receiveData (f_X0_receiveData_42 x0 x1 x2 x3 x4 σ) (cN iU) (42, [(0, .inr (.inr (x0))), (1, .inl (x1)), (2, .inl (x2)), (3, .inl (x3)), (4, .inr (.inr (x4)))], [], hp σ, 0, 0) := by
  unfold f_X0_receiveData_42
  refine T_go (S' := (46, [(0, .inr (.inr (x0))), (1, .inl (x1)), (2, .inl (x2)), (3, .inl (x3)), (4, .inr (.inr (x4)))], [.inl (x3), .inl (x1), .inr (.inr (x4))], hp σ, 0, 0)) 3 rfl ?_
  refine T_cv (i := iU) (as := [.inr (.inr (x4)), .inl (x1), .inl (x3)]) (rest := []) (st := [.inl (x3), .inl (x1), .inr (.inr (x4))]) rfl rfl rfl ⟨lb rfl, lb rfl, lb rfl, lb rfl⟩ (fun _ h => Ew_le (lb rfl) (s_X7_fill x4 x1 x3 σ _ h)) (fun _ r1 => ?_)
  show Snd false none _ _ _ (cN iU) (49, [(0, .inr (.inr (x0))), (1, .inl (x1)), (2, .inl (x2)), (3, .inl (x3)), (4, .inr (.inr (x4)))], [], hp r1.2, 0, 0)
  refine T_go (S' := (52, [(0, .inr (.inr (x0))), (1, .inl (x1)), (2, .inl (x2)), (3, .inl (x3)), (4, .inr (.inr (x4)))], [.inr (.inr (x4)), .inr (.inr (x0))], hp r1.2, 0, 0)) 2 rfl ?_
  refine T_cv (i := iU) (as := [.inr (.inr (x0)), .inr (.inr (x4))]) (rest := []) (st := [.inr (.inr (x4)), .inr (.inr (x0))]) rfl rfl rfl ⟨lb rfl, lb rfl, lb rfl, lb rfl⟩ (fun _ h => Ew_le (lb rfl) (s_X0_use x0 x4 r1.2 _ h)) (fun _ r2 => ?_)
  show Snd false none _ _ _ (cN iU) (55, [(0, .inr (.inr (x0))), (1, .inl (x1)), (2, .inl (x2)), (3, .inl (x3)), (4, .inr (.inr (x4)))], [], hp r2.2, 0, 0)
  refine T_loc (ls' := [(0, .inr (.inr (x0))), (2, .inl (x2)), (4, .inr (.inr (x4)))]) [0, 2, 4] rfl ?_
  exact s_X0_receiveData_55 x0 x2 x4 r2.2
def f_X0_receiveData (x0 : Nat) (x1 : Int32) (x2 : Int32) (x3 : Int32) (σ : eMem) : Option (Unit × eMem) :=
  if (KH x0).1 = 0 then
    Option.bind (f_X0_placeOf x0 x2 σ) (fun r1 =>
      if r1.1 = 0 then
        f_X0_receiveData_20  r1.2
      else
        if (KH r1.1).1 = 6 then
          Option.bind (f_X7_waits r1.1 r1.2) (fun r2 =>
            if ¬ r2.1 = (0 : Int32) then
              if ¬ x1 = (1 : Int32) then
                f_X0_receiveData_42 x0 x1 x2 x3 r1.1 r2.2
              else
                if (KH r1.1).1 = 6 then
                  if (r2.2.1 r1.1 4) = (0 : Int32) then
                    f_X0_receiveData_42 x0 x1 x2 x3 r1.1 r2.2
                  else
                    if (KH r1.1).1 = 6 then
                      Option.bind (f_X7_becomeEmpty r1.1 r2.2) (fun r3 =>
                        f_X0_receiveData_55 x0 x2 r1.1 r3.2
                        )
                    else none
                else none
            else
              f_X0_receiveData_20  r2.2
            )
        else none
      )
  else none
set_option maxHeartbeats 4000000 in
set_option maxRecDepth 20000 in
theorem s_X0_receiveData (x0 : Nat) (x1 : Int32) (x2 : Int32) (x3 : Int32) (σ : eMem) : ∀ r, f_X0_receiveData x0 x1 x2 x3 σ = some r → Ew false 4 22 [.inr (.inr (x0)), .inl (x1), .inl (x2), .inl (x3)] (hp σ) (cN iU r) := by
  refine T_meth (md := m_X0_receiveData) (d0 := 3) (cv := (cN iU)) rfl (lb rfl) (lb rfl) ?_
  unfold f_X0_receiveData
  show Snd false none _ _ _ _ (0, [(0, .inr (.inr (x0))), (1, .inl (x1)), (2, .inl (x2)), (3, .inl (x3))], [], hp σ, 0, 0)
  refine T_go (S' := (2, [(0, .inr (.inr (x0))), (1, .inl (x1)), (2, .inl (x2)), (3, .inl (x3))], [.inl (x2), .inr (.inr (x0))], hp σ, 0, 0)) 2 rfl ?_
  refine T_cv (i := iR) (as := [.inr (.inr (x0)), .inl (x2)]) (rest := []) (st := [.inl (x2), .inr (.inr (x0))]) rfl rfl rfl ⟨lb rfl, lb rfl, lb rfl, lb rfl⟩ (fun _ h => Ew_le (lb rfl) (s_X0_placeOf x0 x2 σ _ h)) (fun _ r1 => ?_)
  show Snd false none _ _ _ (cN iU) (5, [(0, .inr (.inr (x0))), (1, .inl (x1)), (2, .inl (x2)), (3, .inl (x3))], [.inr (.inr (r1.1))], hp r1.2, 0, 0)
  refine T_go (S' := (9, [(4, .inr (.inr (r1.1))), (0, .inr (.inr (x0))), (1, .inl (x1)), (2, .inl (x2)), (3, .inl (x3))], [.inr (.inr (r1.1))], hp r1.2, 0, 0)) 2 rfl ?_
  refine T_ifnull 20 rfl rfl (fun _ => ?_) (fun _ => ?_)
  · refine T_loc (ls' := []) [] rfl ?_
    exact s_X0_receiveData_20  r1.2
  · refine T_go (S' := (14, [(4, .inr (.inr (r1.1))), (0, .inr (.inr (x0))), (1, .inl (x1)), (2, .inl (x2)), (3, .inl (x3))], [.inr (.inr (r1.1))], hp r1.2, 0, 0)) 1 rfl ?_
    refine T_cv (i := iI) (as := [.inr (.inr (r1.1))]) (rest := []) (st := [.inr (.inr (r1.1))]) rfl rfl rfl ⟨lb rfl, lb rfl, lb rfl, lb rfl⟩ (fun _ h => Ew_le (lb rfl) (s_X7_waits r1.1 r1.2 _ h)) (fun _ r2 => ?_)
    show Snd false none _ _ _ (cN iU) (17, [(4, .inr (.inr (r1.1))), (0, .inr (.inr (x0))), (1, .inl (x1)), (2, .inl (x2)), (3, .inl (x3))], [.inl (r2.1)], hp r2.2, 0, 0)
    refine T_if_ne 21 rfl rfl (fun _ => ?_) (fun _ => ?_)
    · refine T_go (S' := (23, [(4, .inr (.inr (r1.1))), (0, .inr (.inr (x0))), (1, .inl (x1)), (2, .inl (x2)), (3, .inl (x3))], [.inl ((1 : Int32)), .inl (x1)], hp r2.2, 0, 0)) 2 rfl ?_
      refine T_icmp_ne 42 rfl rfl (fun _ => ?_) (fun _ => ?_)
      · refine T_loc (ls' := [(0, .inr (.inr (x0))), (1, .inl (x1)), (2, .inl (x2)), (3, .inl (x3)), (4, .inr (.inr (r1.1)))]) [1, 2, 3, 4, 0] rfl ?_
        exact s_X0_receiveData_42 x0 x1 x2 x3 r1.1 r2.2
      · refine T_go (S' := (28, [(4, .inr (.inr (r1.1))), (0, .inr (.inr (x0))), (1, .inl (x1)), (2, .inl (x2)), (3, .inl (x3))], [.inr (.inr (r1.1))], hp r2.2, 0, 0)) 1 rfl ?_
        refine T_getI rfl (fun _ => ?_)
        refine T_if_eq 42 rfl rfl (fun _ => ?_) (fun _ => ?_)
        · refine T_loc (ls' := [(0, .inr (.inr (x0))), (1, .inl (x1)), (2, .inl (x2)), (3, .inl (x3)), (4, .inr (.inr (r1.1)))]) [1, 2, 3, 4, 0] rfl ?_
          exact s_X0_receiveData_42 x0 x1 x2 x3 r1.1 r2.2
        · refine T_go (S' := (36, [(4, .inr (.inr (r1.1))), (0, .inr (.inr (x0))), (1, .inl (x1)), (2, .inl (x2)), (3, .inl (x3))], [.inr (.inr (r1.1))], hp r2.2, 0, 0)) 1 rfl ?_
          refine T_cv (i := iU) (as := [.inr (.inr (r1.1))]) (rest := []) (st := [.inr (.inr (r1.1))]) rfl rfl rfl ⟨lb rfl, lb rfl, lb rfl, lb rfl⟩ (fun _ h => Ew_le (lb rfl) (s_X7_becomeEmpty r1.1 r2.2 _ h)) (fun _ r3 => ?_)
          show Snd false none _ _ _ (cN iU) (39, [(4, .inr (.inr (r1.1))), (0, .inr (.inr (x0))), (1, .inl (x1)), (2, .inl (x2)), (3, .inl (x3))], [], hp r3.2, 0, 0)
          refine T_go (S' := (55, [(4, .inr (.inr (r1.1))), (0, .inr (.inr (x0))), (1, .inl (x1)), (2, .inl (x2)), (3, .inl (x3))], [], hp r3.2, 0, 0)) 1 rfl ?_
          refine T_loc (ls' := [(0, .inr (.inr (x0))), (2, .inl (x2)), (4, .inr (.inr (r1.1)))]) [1, 3, 0] rfl ?_
          exact s_X0_receiveData_55 x0 x2 r1.1 r3.2
    · refine T_loc (ls' := []) [] rfl ?_
      exact s_X0_receiveData_20  r2.2
def f_X4_kindOf (x0 : Int32) (σ : eMem) : Option (Int32 × eMem) :=
  some ((x0 &&& (15 : Int32)), σ)
set_option maxHeartbeats 4000000 in
set_option maxRecDepth 20000 in
theorem s_X4_kindOf (x0 : Int32) (σ : eMem) : ∀ r, f_X4_kindOf x0 σ = some r → Ew false 1 47 [.inl (x0)] (hp σ) (cN iI r) := by
  refine T_meth (md := m_X4_kindOf) (d0 := 0) (cv := (cN iI)) rfl (lb rfl) (lb rfl) ?_
  unfold f_X4_kindOf
  show Snd false none _ _ _ _ (0, [(0, .inl (x0))], [], hp σ, 0, 0)
  refine T_go (S' := (4, [(0, .inl (x0))], [.inl ((x0 &&& (15 : Int32)))], hp σ, 0, 0)) 3 rfl ?_
  exact T_ret rfl
def f_X4_lineOf (x0 : Int32) (σ : eMem) : Option (Int32 × eMem) :=
  some (((x0 >>> ((4 : Int32) &&& 31)) &&& (15 : Int32)), σ)
set_option maxHeartbeats 4000000 in
set_option maxRecDepth 20000 in
theorem s_X4_lineOf (x0 : Int32) (σ : eMem) : ∀ r, f_X4_lineOf x0 σ = some r → Ew false 1 48 [.inl (x0)] (hp σ) (cN iI r) := by
  refine T_meth (md := m_X4_lineOf) (d0 := 0) (cv := (cN iI)) rfl (lb rfl) (lb rfl) ?_
  unfold f_X4_lineOf
  show Snd false none _ _ _ _ (0, [(0, .inl (x0))], [], hp σ, 0, 0)
  refine T_go (S' := (6, [(0, .inl (x0))], [.inl (((x0 >>> ((4 : Int32) &&& 31)) &&& (15 : Int32)))], hp σ, 0, 0)) 5 rfl ?_
  exact T_ret rfl
def f_X4_valueOf (x0 : Int32) (σ : eMem) : Option (Int32 × eMem) :=
  some (((x0 >>> ((10 : Int32) &&& 31)) - (1 : Int32)), σ)
set_option maxHeartbeats 4000000 in
set_option maxRecDepth 20000 in
theorem s_X4_valueOf (x0 : Int32) (σ : eMem) : ∀ r, f_X4_valueOf x0 σ = some r → Ew false 1 50 [.inl (x0)] (hp σ) (cN iI r) := by
  refine T_meth (md := m_X4_valueOf) (d0 := 0) (cv := (cN iI)) rfl (lb rfl) (lb rfl) ?_
  unfold f_X4_valueOf
  show Snd false none _ _ _ _ (0, [(0, .inl (x0))], [], hp σ, 0, 0)
  refine T_go (S' := (6, [(0, .inl (x0))], [.inl (((x0 >>> ((10 : Int32) &&& 31)) - (1 : Int32)))], hp σ, 0, 0)) 5 rfl ?_
  exact T_ret rfl
def f_X10_meet_28  (σ : eMem) : Option (Unit × eMem) :=
  some ((), σ)
set_option maxHeartbeats 4000000 in
set_option maxRecDepth 20000 in
theorem s_X10_meet_28  (σ : eMem) : Snd false none 1 m_X10_meet (f_X10_meet_28 σ) (cN iU) (28, [], [], hp σ, 0, 0) := by
  unfold f_X10_meet_28
  exact T_ret rfl
def f_X10_meet_23 (x0 : Nat) (σ : eMem) : Option (Unit × eMem) :=
  if (KH x0).1 = 8 ∧ eB (1 : Int32) = true then eLet ((eup σ.1 x0 1 (1 : Int32), σ.2) : eMem) (fun σ1 =>
    f_X10_meet_28  σ1
    ) else none
set_option maxHeartbeats 4000000 in
set_option maxRecDepth 20000 in
theorem s_X10_meet_23 (x0 : Nat) (σ : eMem) : Snd false none 1 m_X10_meet (f_X10_meet_23 x0 σ) (cN iU) (23, [(0, .inr (.inr (x0)))], [], hp σ, 0, 0) := by
  unfold f_X10_meet_23
  refine T_go (S' := (25, [(0, .inr (.inr (x0)))], [.inl ((1 : Int32)), .inr (.inr (x0))], hp σ, 0, 0)) 2 rfl ?_
  refine T_putZ rfl (fun _ => ?_)
  refine T_let (Sf := fun σ1 => (28, [(0, .inr (.inr (x0)))], [], hp σ1, 0, 0)) (fun σ1 => ?_)
  refine T_loc (ls' := []) [] rfl ?_
  exact s_X10_meet_28  σ1
def f_X10_meet (x0 : Nat) (x1 : Int32) (x2 : Int32) (σ : eMem) : Option (Unit × eMem) :=
  if (KH x0).1 = 8 then
    Option.bind (f_X10_has x0 x2 σ) (fun r1 =>
      if r1.1 = (0 : Int32) then
        f_X10_meet_28  r1.2
      else
        if ¬ x1 = (4 : Int32) then
          f_X10_meet_23 x0 r1.2
        else
          if (KH x0).1 = 8 then
            if (KH (RH x0 6)).1 = 11 ∧ eix x2 (KH (RH x0 6)).2 = true then
              if (r1.2.1 (RH x0 6) x2.toNatClampNeg) = (-1 : Int32) then
                f_X10_meet_28  r1.2
              else
                f_X10_meet_23 x0 r1.2
            else none
          else none
      )
  else none
set_option maxHeartbeats 4000000 in
set_option maxRecDepth 20000 in
theorem s_X10_meet (x0 : Nat) (x1 : Int32) (x2 : Int32) (σ : eMem) : ∀ r, f_X10_meet x0 x1 x2 σ = some r → Ew false 2 96 [.inr (.inr (x0)), .inl (x1), .inl (x2)] (hp σ) (cN iU r) := by
  refine T_meth (md := m_X10_meet) (d0 := 1) (cv := (cN iU)) rfl (lb rfl) (lb rfl) ?_
  unfold f_X10_meet
  show Snd false none _ _ _ _ (0, [(0, .inr (.inr (x0))), (1, .inl (x1)), (2, .inl (x2))], [], hp σ, 0, 0)
  refine T_go (S' := (2, [(0, .inr (.inr (x0))), (1, .inl (x1)), (2, .inl (x2))], [.inl (x2), .inr (.inr (x0))], hp σ, 0, 0)) 2 rfl ?_
  refine T_cv (i := iI) (as := [.inr (.inr (x0)), .inl (x2)]) (rest := []) (st := [.inl (x2), .inr (.inr (x0))]) rfl rfl rfl ⟨lb rfl, lb rfl, lb rfl, lb rfl⟩ (fun _ h => Ew_le (lb rfl) (s_X10_has x0 x2 σ _ h)) (fun _ r1 => ?_)
  show Snd false none _ _ _ (cN iU) (5, [(0, .inr (.inr (x0))), (1, .inl (x1)), (2, .inl (x2))], [.inl (r1.1)], hp r1.2, 0, 0)
  refine T_if_eq 28 rfl rfl (fun _ => ?_) (fun _ => ?_)
  · refine T_loc (ls' := []) [] rfl ?_
    exact s_X10_meet_28  r1.2
  · refine T_go (S' := (10, [(0, .inr (.inr (x0))), (1, .inl (x1)), (2, .inl (x2))], [.inl ((4 : Int32)), .inl (x1)], hp r1.2, 0, 0)) 2 rfl ?_
    refine T_icmp_ne 23 rfl rfl (fun _ => ?_) (fun _ => ?_)
    · refine T_loc (ls' := [(0, .inr (.inr (x0)))]) [0] rfl ?_
      exact s_X10_meet_23 x0 r1.2
    · refine T_go (S' := (14, [(0, .inr (.inr (x0))), (1, .inl (x1)), (2, .inl (x2))], [.inr (.inr (x0))], hp r1.2, 0, 0)) 1 rfl ?_
      refine T_getR rfl (fun _ => ?_)
      refine T_go (S' := (18, [(0, .inr (.inr (x0))), (1, .inl (x1)), (2, .inl (x2))], [.inl (x2), .inr (.inr ((RH x0 6)))], hp r1.2, 0, 0)) 1 rfl ?_
      refine T_iald rfl (fun _ => ?_)
      refine T_go (S' := (20, [(0, .inr (.inr (x0))), (1, .inl (x1)), (2, .inl (x2))], [.inl ((-1 : Int32)), .inl ((r1.2.1 (RH x0 6) x2.toNatClampNeg))], hp r1.2, 0, 0)) 1 rfl ?_
      refine T_icmp_eq 28 rfl rfl (fun _ => ?_) (fun _ => ?_)
      · refine T_loc (ls' := []) [] rfl ?_
        exact s_X10_meet_28  r1.2
      · refine T_loc (ls' := [(0, .inr (.inr (x0)))]) [0] rfl ?_
        exact s_X10_meet_23 x0 r1.2
def f_X0_receive_112  (σ : eMem) : Option (Unit × eMem) :=
  some ((), σ)
set_option maxHeartbeats 4000000 in
set_option maxRecDepth 20000 in
theorem s_X0_receive_112  (σ : eMem) : Snd false none 4 m_X0_receive (f_X0_receive_112 σ) (cN iU) (112, [], [], hp σ, 0, 0) := by
  unfold f_X0_receive_112
  exact T_ret rfl
def f_X0_receive (x0 : Nat) (x1 : Int32) (σ : eMem) : Option (Unit × eMem) :=
  Option.bind (f_X4_kindOf x1 σ) (fun r1 =>
    Option.bind (f_X4_lineOf x1 r1.2) (fun r2 =>
      if r1.1 = (3 : Int32) then
        if (KH x0).1 = 0 then
          if (KH (RH x0 8)).1 = 8 then
            Option.bind (f_X10_meet (RH x0 8) r1.1 r2.1 r2.2) (fun r3 =>
              if (KH x0).1 = 0 then
                Option.bind (f_X0_receiveKill x0 r2.1 r3.2) (fun r4 =>
                  f_X0_receive_112  r4.2
                  )
              else none
              )
          else none
        else none
      else
        if r1.1 = (4 : Int32) then
          if (KH x0).1 = 0 then
            if (KH (RH x0 8)).1 = 8 then
              Option.bind (f_X10_meet (RH x0 8) r1.1 r2.1 r2.2) (fun r5 =>
                if (KH x0).1 = 0 then
                  Option.bind (f_X0_giveUp x0 r1.1 r2.1 r5.2) (fun r6 =>
                    f_X0_receive_112  r6.2
                    )
                else none
                )
            else none
          else none
        else
          if r1.1 = (5 : Int32) then
            if (KH x0).1 = 0 then
              if (KH (RH x0 8)).1 = 8 then
                Option.bind (f_X10_meet (RH x0 8) r1.1 r2.1 r2.2) (fun r7 =>
                  if (KH x0).1 = 0 then
                    Option.bind (f_X0_giveUp x0 r1.1 r2.1 r7.2) (fun r8 =>
                      f_X0_receive_112  r8.2
                      )
                  else none
                  )
              else none
            else none
          else
            if r1.1 = (6 : Int32) then
              Option.bind (f_X4_valueOf x1 r2.2) (fun r9 =>
                if (KH x0).1 = 0 then
                  Option.bind (f_X0_receiveData x0 (((1 : Int32) + r1.1) - (6 : Int32)) r2.1 r9.1 r9.2) (fun r10 =>
                    f_X0_receive_112  r10.2
                    )
                else none
                )
            else
              if r1.1 = (7 : Int32) then
                Option.bind (f_X4_valueOf x1 r2.2) (fun r11 =>
                  if (KH x0).1 = 0 then
                    Option.bind (f_X0_receiveData x0 (((1 : Int32) + r1.1) - (6 : Int32)) r2.1 r11.1 r11.2) (fun r12 =>
                      f_X0_receive_112  r12.2
                      )
                  else none
                  )
              else
                if r1.1 = (8 : Int32) then
                  Option.bind (f_X4_valueOf x1 r2.2) (fun r13 =>
                    if (KH x0).1 = 0 then
                      Option.bind (f_X0_receiveData x0 (((1 : Int32) + r1.1) - (6 : Int32)) r2.1 r13.1 r13.2) (fun r14 =>
                        f_X0_receive_112  r14.2
                        )
                    else none
                    )
                else
                  if r1.1 = (9 : Int32) then
                    if (KH x0).1 = 0 then
                      if (KH (RH x0 4)).1 = 11 ∧ eix r2.1 (KH (RH x0 4)).2 = true then eLet ((eup r2.2.1 (RH x0 4) r2.1.toNatClampNeg (-1 : Int32), r2.2.2) : eMem) (fun σ15 =>
                        f_X0_receive_112  σ15
                        ) else none
                    else none
                  else
                    Option.bind (f_X4_valueOf x1 r2.2) (fun r16 =>
                      if (KH x0).1 = 0 then
                        Option.bind (f_X0_receiveData x0 (((1 : Int32) + r1.1) - (6 : Int32)) r2.1 r16.1 r16.2) (fun r17 =>
                          f_X0_receive_112  r17.2
                          )
                      else none
                      )
      )
    )
set_option maxHeartbeats 4000000 in
set_option maxRecDepth 20000 in
theorem s_X0_receive (x0 : Nat) (x1 : Int32) (σ : eMem) : ∀ r, f_X0_receive x0 x1 σ = some r → Ew false 5 19 [.inr (.inr (x0)), .inl (x1)] (hp σ) (cN iU r) := by
  refine T_meth (md := m_X0_receive) (d0 := 4) (cv := (cN iU)) rfl (lb rfl) (lb rfl) ?_
  unfold f_X0_receive
  show Snd false none _ _ _ _ (0, [(0, .inr (.inr (x0))), (1, .inl (x1))], [], hp σ, 0, 0)
  refine T_go (S' := (1, [(0, .inr (.inr (x0))), (1, .inl (x1))], [.inl (x1)], hp σ, 0, 0)) 1 rfl ?_
  refine T_cs (i := iI) (as := [.inl (x1)]) (rest := []) (st := [.inl (x1)]) rfl (lb rfl) rfl rfl ⟨lb rfl, lb rfl, lb rfl, lb rfl⟩ (fun _ h => Ew_le (lb rfl) (s_X4_kindOf x1 σ _ h)) (fun r1 => ?_)
  show Snd false none _ _ _ (cN iU) (4, [(0, .inr (.inr (x0))), (1, .inl (x1))], [.inl (r1.1)], hp r1.2, 0, 0)
  refine T_go (S' := (6, [(2, .inl (r1.1)), (0, .inr (.inr (x0))), (1, .inl (x1))], [.inl (x1)], hp r1.2, 0, 0)) 2 rfl ?_
  refine T_cs (i := iI) (as := [.inl (x1)]) (rest := []) (st := [.inl (x1)]) rfl (lb rfl) rfl rfl ⟨lb rfl, lb rfl, lb rfl, lb rfl⟩ (fun _ h => Ew_le (lb rfl) (s_X4_lineOf x1 r1.2 _ h)) (fun r2 => ?_)
  show Snd false none _ _ _ (cN iU) (9, [(2, .inl (r1.1)), (0, .inr (.inr (x0))), (1, .inl (x1))], [.inl (r2.1)], hp r2.2, 0, 0)
  refine T_go (S' := (11, [(3, .inl (r2.1)), (2, .inl (r1.1)), (0, .inr (.inr (x0))), (1, .inl (x1))], [.inl (r1.1)], hp r2.2, 0, 0)) 2 rfl ?_
  refine T_sw (3 : Int32) rfl (fun _ => ?_) (fun q0 => ?_)
  · refine T_go (S' := (53, [(3, .inl (r2.1)), (2, .inl (r1.1)), (0, .inr (.inr (x0))), (1, .inl (x1))], [.inr (.inr (x0))], hp r2.2, 0, 0)) 1 rfl ?_
    refine T_getR rfl (fun _ => ?_)
    refine T_go (S' := (58, [(3, .inl (r2.1)), (2, .inl (r1.1)), (0, .inr (.inr (x0))), (1, .inl (x1))], [.inl (r2.1), .inl (r1.1), .inr (.inr ((RH x0 8)))], hp r2.2, 0, 0)) 2 rfl ?_
    refine T_cv (i := iU) (as := [.inr (.inr ((RH x0 8))), .inl (r1.1), .inl (r2.1)]) (rest := []) (st := [.inl (r2.1), .inl (r1.1), .inr (.inr ((RH x0 8)))]) rfl rfl rfl ⟨lb rfl, lb rfl, lb rfl, lb rfl⟩ (fun _ h => Ew_le (lb rfl) (s_X10_meet (RH x0 8) r1.1 r2.1 r2.2 _ h)) (fun _ r3 => ?_)
    show Snd false none _ _ _ (cN iU) (61, [(3, .inl (r2.1)), (2, .inl (r1.1)), (0, .inr (.inr (x0))), (1, .inl (x1))], [], hp r3.2, 0, 0)
    refine T_go (S' := (63, [(3, .inl (r2.1)), (2, .inl (r1.1)), (0, .inr (.inr (x0))), (1, .inl (x1))], [.inl (r2.1), .inr (.inr (x0))], hp r3.2, 0, 0)) 2 rfl ?_
    refine T_cv (i := iU) (as := [.inr (.inr (x0)), .inl (r2.1)]) (rest := []) (st := [.inl (r2.1), .inr (.inr (x0))]) rfl rfl rfl ⟨lb rfl, lb rfl, lb rfl, lb rfl⟩ (fun _ h => Ew_le (lb rfl) (s_X0_receiveKill x0 r2.1 r3.2 _ h)) (fun _ r4 => ?_)
    show Snd false none _ _ _ (cN iU) (66, [(3, .inl (r2.1)), (2, .inl (r1.1)), (0, .inr (.inr (x0))), (1, .inl (x1))], [], hp r4.2, 0, 0)
    refine T_go (S' := (112, [(3, .inl (r2.1)), (2, .inl (r1.1)), (0, .inr (.inr (x0))), (1, .inl (x1))], [], hp r4.2, 0, 0)) 1 rfl ?_
    refine T_loc (ls' := []) [] rfl ?_
    exact s_X0_receive_112  r4.2
  refine T_sw (4 : Int32) rfl (fun _ => ?_) (fun q1 => ?_)
  · refine T_go (S' := (70, [(3, .inl (r2.1)), (2, .inl (r1.1)), (0, .inr (.inr (x0))), (1, .inl (x1))], [.inr (.inr (x0))], hp r2.2, 0, 0)) 1 rfl ?_
    refine T_getR rfl (fun _ => ?_)
    refine T_go (S' := (75, [(3, .inl (r2.1)), (2, .inl (r1.1)), (0, .inr (.inr (x0))), (1, .inl (x1))], [.inl (r2.1), .inl (r1.1), .inr (.inr ((RH x0 8)))], hp r2.2, 0, 0)) 2 rfl ?_
    refine T_cv (i := iU) (as := [.inr (.inr ((RH x0 8))), .inl (r1.1), .inl (r2.1)]) (rest := []) (st := [.inl (r2.1), .inl (r1.1), .inr (.inr ((RH x0 8)))]) rfl rfl rfl ⟨lb rfl, lb rfl, lb rfl, lb rfl⟩ (fun _ h => Ew_le (lb rfl) (s_X10_meet (RH x0 8) r1.1 r2.1 r2.2 _ h)) (fun _ r5 => ?_)
    show Snd false none _ _ _ (cN iU) (78, [(3, .inl (r2.1)), (2, .inl (r1.1)), (0, .inr (.inr (x0))), (1, .inl (x1))], [], hp r5.2, 0, 0)
    refine T_go (S' := (81, [(3, .inl (r2.1)), (2, .inl (r1.1)), (0, .inr (.inr (x0))), (1, .inl (x1))], [.inl (r2.1), .inl (r1.1), .inr (.inr (x0))], hp r5.2, 0, 0)) 3 rfl ?_
    refine T_cv (i := iU) (as := [.inr (.inr (x0)), .inl (r1.1), .inl (r2.1)]) (rest := []) (st := [.inl (r2.1), .inl (r1.1), .inr (.inr (x0))]) rfl rfl rfl ⟨lb rfl, lb rfl, lb rfl, lb rfl⟩ (fun _ h => Ew_le (lb rfl) (s_X0_giveUp x0 r1.1 r2.1 r5.2 _ h)) (fun _ r6 => ?_)
    show Snd false none _ _ _ (cN iU) (84, [(3, .inl (r2.1)), (2, .inl (r1.1)), (0, .inr (.inr (x0))), (1, .inl (x1))], [], hp r6.2, 0, 0)
    refine T_go (S' := (112, [(3, .inl (r2.1)), (2, .inl (r1.1)), (0, .inr (.inr (x0))), (1, .inl (x1))], [], hp r6.2, 0, 0)) 1 rfl ?_
    refine T_loc (ls' := []) [] rfl ?_
    exact s_X0_receive_112  r6.2
  refine T_sw (5 : Int32) rfl (fun _ => ?_) (fun q2 => ?_)
  · refine T_go (S' := (70, [(3, .inl (r2.1)), (2, .inl (r1.1)), (0, .inr (.inr (x0))), (1, .inl (x1))], [.inr (.inr (x0))], hp r2.2, 0, 0)) 1 rfl ?_
    refine T_getR rfl (fun _ => ?_)
    refine T_go (S' := (75, [(3, .inl (r2.1)), (2, .inl (r1.1)), (0, .inr (.inr (x0))), (1, .inl (x1))], [.inl (r2.1), .inl (r1.1), .inr (.inr ((RH x0 8)))], hp r2.2, 0, 0)) 2 rfl ?_
    refine T_cv (i := iU) (as := [.inr (.inr ((RH x0 8))), .inl (r1.1), .inl (r2.1)]) (rest := []) (st := [.inl (r2.1), .inl (r1.1), .inr (.inr ((RH x0 8)))]) rfl rfl rfl ⟨lb rfl, lb rfl, lb rfl, lb rfl⟩ (fun _ h => Ew_le (lb rfl) (s_X10_meet (RH x0 8) r1.1 r2.1 r2.2 _ h)) (fun _ r7 => ?_)
    show Snd false none _ _ _ (cN iU) (78, [(3, .inl (r2.1)), (2, .inl (r1.1)), (0, .inr (.inr (x0))), (1, .inl (x1))], [], hp r7.2, 0, 0)
    refine T_go (S' := (81, [(3, .inl (r2.1)), (2, .inl (r1.1)), (0, .inr (.inr (x0))), (1, .inl (x1))], [.inl (r2.1), .inl (r1.1), .inr (.inr (x0))], hp r7.2, 0, 0)) 3 rfl ?_
    refine T_cv (i := iU) (as := [.inr (.inr (x0)), .inl (r1.1), .inl (r2.1)]) (rest := []) (st := [.inl (r2.1), .inl (r1.1), .inr (.inr (x0))]) rfl rfl rfl ⟨lb rfl, lb rfl, lb rfl, lb rfl⟩ (fun _ h => Ew_le (lb rfl) (s_X0_giveUp x0 r1.1 r2.1 r7.2 _ h)) (fun _ r8 => ?_)
    show Snd false none _ _ _ (cN iU) (84, [(3, .inl (r2.1)), (2, .inl (r1.1)), (0, .inr (.inr (x0))), (1, .inl (x1))], [], hp r8.2, 0, 0)
    refine T_go (S' := (112, [(3, .inl (r2.1)), (2, .inl (r1.1)), (0, .inr (.inr (x0))), (1, .inl (x1))], [], hp r8.2, 0, 0)) 1 rfl ?_
    refine T_loc (ls' := []) [] rfl ?_
    exact s_X0_receive_112  r8.2
  refine T_sw (6 : Int32) rfl (fun _ => ?_) (fun q3 => ?_)
  · refine T_go (S' := (106, [(3, .inl (r2.1)), (2, .inl (r1.1)), (0, .inr (.inr (x0))), (1, .inl (x1))], [.inl (x1), .inl (r2.1), .inl ((((1 : Int32) + r1.1) - (6 : Int32))), .inr (.inr (x0))], hp r2.2, 0, 0)) 8 rfl ?_
    refine T_cs (i := iI) (as := [.inl (x1)]) (rest := [.inl (r2.1), .inl ((((1 : Int32) + r1.1) - (6 : Int32))), .inr (.inr (x0))]) (st := [.inl (x1), .inl (r2.1), .inl ((((1 : Int32) + r1.1) - (6 : Int32))), .inr (.inr (x0))]) rfl (lb rfl) rfl rfl ⟨lb rfl, lb rfl, lb rfl, lb rfl⟩ (fun _ h => Ew_le (lb rfl) (s_X4_valueOf x1 r2.2 _ h)) (fun r9 => ?_)
    show Snd false none _ _ _ (cN iU) (109, [(3, .inl (r2.1)), (2, .inl (r1.1)), (0, .inr (.inr (x0))), (1, .inl (x1))], [.inl (r9.1), .inl (r2.1), .inl ((((1 : Int32) + r1.1) - (6 : Int32))), .inr (.inr (x0))], hp r9.2, 0, 0)
    refine T_cv (i := iU) (as := [.inr (.inr (x0)), .inl ((((1 : Int32) + r1.1) - (6 : Int32))), .inl (r2.1), .inl (r9.1)]) (rest := []) (st := [.inl (r9.1), .inl (r2.1), .inl ((((1 : Int32) + r1.1) - (6 : Int32))), .inr (.inr (x0))]) rfl rfl rfl ⟨lb rfl, lb rfl, lb rfl, lb rfl⟩ (fun _ h => Ew_le (lb rfl) (s_X0_receiveData x0 (((1 : Int32) + r1.1) - (6 : Int32)) r2.1 r9.1 r9.2 _ h)) (fun _ r10 => ?_)
    show Snd false none _ _ _ (cN iU) (112, [(3, .inl (r2.1)), (2, .inl (r1.1)), (0, .inr (.inr (x0))), (1, .inl (x1))], [], hp r10.2, 0, 0)
    refine T_loc (ls' := []) [] rfl ?_
    exact s_X0_receive_112  r10.2
  refine T_sw (7 : Int32) rfl (fun _ => ?_) (fun q4 => ?_)
  · refine T_go (S' := (106, [(3, .inl (r2.1)), (2, .inl (r1.1)), (0, .inr (.inr (x0))), (1, .inl (x1))], [.inl (x1), .inl (r2.1), .inl ((((1 : Int32) + r1.1) - (6 : Int32))), .inr (.inr (x0))], hp r2.2, 0, 0)) 8 rfl ?_
    refine T_cs (i := iI) (as := [.inl (x1)]) (rest := [.inl (r2.1), .inl ((((1 : Int32) + r1.1) - (6 : Int32))), .inr (.inr (x0))]) (st := [.inl (x1), .inl (r2.1), .inl ((((1 : Int32) + r1.1) - (6 : Int32))), .inr (.inr (x0))]) rfl (lb rfl) rfl rfl ⟨lb rfl, lb rfl, lb rfl, lb rfl⟩ (fun _ h => Ew_le (lb rfl) (s_X4_valueOf x1 r2.2 _ h)) (fun r11 => ?_)
    show Snd false none _ _ _ (cN iU) (109, [(3, .inl (r2.1)), (2, .inl (r1.1)), (0, .inr (.inr (x0))), (1, .inl (x1))], [.inl (r11.1), .inl (r2.1), .inl ((((1 : Int32) + r1.1) - (6 : Int32))), .inr (.inr (x0))], hp r11.2, 0, 0)
    refine T_cv (i := iU) (as := [.inr (.inr (x0)), .inl ((((1 : Int32) + r1.1) - (6 : Int32))), .inl (r2.1), .inl (r11.1)]) (rest := []) (st := [.inl (r11.1), .inl (r2.1), .inl ((((1 : Int32) + r1.1) - (6 : Int32))), .inr (.inr (x0))]) rfl rfl rfl ⟨lb rfl, lb rfl, lb rfl, lb rfl⟩ (fun _ h => Ew_le (lb rfl) (s_X0_receiveData x0 (((1 : Int32) + r1.1) - (6 : Int32)) r2.1 r11.1 r11.2 _ h)) (fun _ r12 => ?_)
    show Snd false none _ _ _ (cN iU) (112, [(3, .inl (r2.1)), (2, .inl (r1.1)), (0, .inr (.inr (x0))), (1, .inl (x1))], [], hp r12.2, 0, 0)
    refine T_loc (ls' := []) [] rfl ?_
    exact s_X0_receive_112  r12.2
  refine T_sw (8 : Int32) rfl (fun _ => ?_) (fun q5 => ?_)
  · refine T_go (S' := (106, [(3, .inl (r2.1)), (2, .inl (r1.1)), (0, .inr (.inr (x0))), (1, .inl (x1))], [.inl (x1), .inl (r2.1), .inl ((((1 : Int32) + r1.1) - (6 : Int32))), .inr (.inr (x0))], hp r2.2, 0, 0)) 8 rfl ?_
    refine T_cs (i := iI) (as := [.inl (x1)]) (rest := [.inl (r2.1), .inl ((((1 : Int32) + r1.1) - (6 : Int32))), .inr (.inr (x0))]) (st := [.inl (x1), .inl (r2.1), .inl ((((1 : Int32) + r1.1) - (6 : Int32))), .inr (.inr (x0))]) rfl (lb rfl) rfl rfl ⟨lb rfl, lb rfl, lb rfl, lb rfl⟩ (fun _ h => Ew_le (lb rfl) (s_X4_valueOf x1 r2.2 _ h)) (fun r13 => ?_)
    show Snd false none _ _ _ (cN iU) (109, [(3, .inl (r2.1)), (2, .inl (r1.1)), (0, .inr (.inr (x0))), (1, .inl (x1))], [.inl (r13.1), .inl (r2.1), .inl ((((1 : Int32) + r1.1) - (6 : Int32))), .inr (.inr (x0))], hp r13.2, 0, 0)
    refine T_cv (i := iU) (as := [.inr (.inr (x0)), .inl ((((1 : Int32) + r1.1) - (6 : Int32))), .inl (r2.1), .inl (r13.1)]) (rest := []) (st := [.inl (r13.1), .inl (r2.1), .inl ((((1 : Int32) + r1.1) - (6 : Int32))), .inr (.inr (x0))]) rfl rfl rfl ⟨lb rfl, lb rfl, lb rfl, lb rfl⟩ (fun _ h => Ew_le (lb rfl) (s_X0_receiveData x0 (((1 : Int32) + r1.1) - (6 : Int32)) r2.1 r13.1 r13.2 _ h)) (fun _ r14 => ?_)
    show Snd false none _ _ _ (cN iU) (112, [(3, .inl (r2.1)), (2, .inl (r1.1)), (0, .inr (.inr (x0))), (1, .inl (x1))], [], hp r14.2, 0, 0)
    refine T_loc (ls' := []) [] rfl ?_
    exact s_X0_receive_112  r14.2
  refine T_sw (9 : Int32) rfl (fun _ => ?_) (fun q6 => ?_)
  · refine T_go (S' := (88, [(3, .inl (r2.1)), (2, .inl (r1.1)), (0, .inr (.inr (x0))), (1, .inl (x1))], [.inr (.inr (x0))], hp r2.2, 0, 0)) 1 rfl ?_
    refine T_getR rfl (fun _ => ?_)
    refine T_go (S' := (93, [(3, .inl (r2.1)), (2, .inl (r1.1)), (0, .inr (.inr (x0))), (1, .inl (x1))], [.inl ((-1 : Int32)), .inl (r2.1), .inr (.inr ((RH x0 4)))], hp r2.2, 0, 0)) 2 rfl ?_
    refine T_iast rfl (fun _ => ?_)
    refine T_let (Sf := fun σ15 => (94, [(3, .inl (r2.1)), (2, .inl (r1.1)), (0, .inr (.inr (x0))), (1, .inl (x1))], [], hp σ15, 0, 0)) (fun σ15 => ?_)
    refine T_go (S' := (112, [(3, .inl (r2.1)), (2, .inl (r1.1)), (0, .inr (.inr (x0))), (1, .inl (x1))], [], hp σ15, 0, 0)) 1 rfl ?_
    refine T_loc (ls' := []) [] rfl ?_
    exact s_X0_receive_112  σ15
  have hq : (r1.1).toInt < 3 ∨ 9 < (r1.1).toInt := by
    have g0 := e_i32 (k := 3) (x := r1.1) q0 (by decide)
    have g1 := e_i32 (k := 4) (x := r1.1) q1 (by decide)
    have g2 := e_i32 (k := 5) (x := r1.1) q2 (by decide)
    have g3 := e_i32 (k := 6) (x := r1.1) q3 (by decide)
    have g4 := e_i32 (k := 7) (x := r1.1) q4 (by decide)
    have g5 := e_i32 (k := 8) (x := r1.1) q5 (by decide)
    have g6 := e_i32 (k := 9) (x := r1.1) q6 (by decide)
    omega
  refine T_tso 97 rfl hq rfl ?_
  refine T_go (S' := (106, [(3, .inl (r2.1)), (2, .inl (r1.1)), (0, .inr (.inr (x0))), (1, .inl (x1))], [.inl (x1), .inl (r2.1), .inl ((((1 : Int32) + r1.1) - (6 : Int32))), .inr (.inr (x0))], hp r2.2, 0, 0)) 8 rfl ?_
  refine T_cs (i := iI) (as := [.inl (x1)]) (rest := [.inl (r2.1), .inl ((((1 : Int32) + r1.1) - (6 : Int32))), .inr (.inr (x0))]) (st := [.inl (x1), .inl (r2.1), .inl ((((1 : Int32) + r1.1) - (6 : Int32))), .inr (.inr (x0))]) rfl (lb rfl) rfl rfl ⟨lb rfl, lb rfl, lb rfl, lb rfl⟩ (fun _ h => Ew_le (lb rfl) (s_X4_valueOf x1 r2.2 _ h)) (fun r16 => ?_)
  show Snd false none _ _ _ (cN iU) (109, [(3, .inl (r2.1)), (2, .inl (r1.1)), (0, .inr (.inr (x0))), (1, .inl (x1))], [.inl (r16.1), .inl (r2.1), .inl ((((1 : Int32) + r1.1) - (6 : Int32))), .inr (.inr (x0))], hp r16.2, 0, 0)
  refine T_cv (i := iU) (as := [.inr (.inr (x0)), .inl ((((1 : Int32) + r1.1) - (6 : Int32))), .inl (r2.1), .inl (r16.1)]) (rest := []) (st := [.inl (r16.1), .inl (r2.1), .inl ((((1 : Int32) + r1.1) - (6 : Int32))), .inr (.inr (x0))]) rfl rfl rfl ⟨lb rfl, lb rfl, lb rfl, lb rfl⟩ (fun _ h => Ew_le (lb rfl) (s_X0_receiveData x0 (((1 : Int32) + r1.1) - (6 : Int32)) r2.1 r16.1 r16.2 _ h)) (fun _ r17 => ?_)
  show Snd false none _ _ _ (cN iU) (112, [(3, .inl (r2.1)), (2, .inl (r1.1)), (0, .inr (.inr (x0))), (1, .inl (x1))], [], hp r17.2, 0, 0)
  refine T_loc (ls' := []) [] rfl ?_
  exact s_X0_receive_112  r17.2
def f_X1_forward_14 (x0 : Nat) (x1 : Int32) (x2 : Int32) (x3 : Int32) (s0 : Nat) (s1 : Int32) (σ : eMem) : Option (Unit × eMem) :=
  if (KH s0).1 = 11 ∧ eix s1 (KH s0).2 = true then
    if (KH s0).1 = 11 ∧ eix s1 (KH s0).2 = true then eLet ((eup σ.1 s0 s1.toNatClampNeg ((σ.1 s0 s1.toNatClampNeg) + (1 : Int32)), σ.2) : eMem) (fun σ1 =>
      if (KH x0).1 = 1 then
        Option.bind (f_X4_lineOf x3 σ1) (fun r2 =>
          Option.bind (f_X4_of x1 r2.1 (0 : Int32) (-1 : Int32) r2.2) (fun r3 =>
            if (KH (RH x0 1)).1 = 3 then
              Option.bind (f_X3_send (RH x0 1) (1 : Int32) x2 r3.1 r3.2) (fun r4 =>
                some ((), r4.2)
                )
            else none
            )
          )
      else none
      ) else none
  else none
set_option maxHeartbeats 4000000 in
set_option maxRecDepth 20000 in
theorem s_X1_forward_14 (x0 : Nat) (x1 : Int32) (x2 : Int32) (x3 : Int32) (s0 : Nat) (s1 : Int32) (σ : eMem) : Snd false none 1 m_X1_forward (f_X1_forward_14 x0 x1 x2 x3 s0 s1 σ) (cN iU) (14, [(0, .inr (.inr (x0))), (1, .inl (x1)), (2, .inl (x2)), (3, .inl (x3))], [.inl (s1), .inr (.inr (s0))], hp σ, 0, 0) := by
  unfold f_X1_forward_14
  refine T_go (S' := (15, [(0, .inr (.inr (x0))), (1, .inl (x1)), (2, .inl (x2)), (3, .inl (x3))], [.inl (s1), .inr (.inr (s0)), .inl (s1), .inr (.inr (s0))], hp σ, 0, 0)) 1 rfl ?_
  refine T_iald rfl (fun _ => ?_)
  refine T_go (S' := (18, [(0, .inr (.inr (x0))), (1, .inl (x1)), (2, .inl (x2)), (3, .inl (x3))], [.inl (((σ.1 s0 s1.toNatClampNeg) + (1 : Int32))), .inl (s1), .inr (.inr (s0))], hp σ, 0, 0)) 2 rfl ?_
  refine T_iast rfl (fun _ => ?_)
  refine T_let (Sf := fun σ1 => (19, [(0, .inr (.inr (x0))), (1, .inl (x1)), (2, .inl (x2)), (3, .inl (x3))], [], hp σ1, 0, 0)) (fun σ1 => ?_)
  refine T_go (S' := (20, [(0, .inr (.inr (x0))), (1, .inl (x1)), (2, .inl (x2)), (3, .inl (x3))], [.inr (.inr (x0))], hp σ1, 0, 0)) 1 rfl ?_
  refine T_getR rfl (fun _ => ?_)
  refine T_go (S' := (27, [(0, .inr (.inr (x0))), (1, .inl (x1)), (2, .inl (x2)), (3, .inl (x3))], [.inl (x3), .inl (x1), .inl (x2), .inl ((1 : Int32)), .inr (.inr ((RH x0 1)))], hp σ1, 0, 0)) 4 rfl ?_
  refine T_cs (i := iI) (as := [.inl (x3)]) (rest := [.inl (x1), .inl (x2), .inl ((1 : Int32)), .inr (.inr ((RH x0 1)))]) (st := [.inl (x3), .inl (x1), .inl (x2), .inl ((1 : Int32)), .inr (.inr ((RH x0 1)))]) rfl (lb rfl) rfl rfl ⟨lb rfl, lb rfl, lb rfl, lb rfl⟩ (fun _ h => Ew_le (lb rfl) (s_X4_lineOf x3 σ1 _ h)) (fun r2 => ?_)
  show Snd false none _ _ _ (cN iU) (30, [(0, .inr (.inr (x0))), (1, .inl (x1)), (2, .inl (x2)), (3, .inl (x3))], [.inl (r2.1), .inl (x1), .inl (x2), .inl ((1 : Int32)), .inr (.inr ((RH x0 1)))], hp r2.2, 0, 0)
  refine T_go (S' := (32, [(0, .inr (.inr (x0))), (1, .inl (x1)), (2, .inl (x2)), (3, .inl (x3))], [.inl ((-1 : Int32)), .inl ((0 : Int32)), .inl (r2.1), .inl (x1), .inl (x2), .inl ((1 : Int32)), .inr (.inr ((RH x0 1)))], hp r2.2, 0, 0)) 2 rfl ?_
  refine T_cs (i := iI) (as := [.inl (x1), .inl (r2.1), .inl ((0 : Int32)), .inl ((-1 : Int32))]) (rest := [.inl (x2), .inl ((1 : Int32)), .inr (.inr ((RH x0 1)))]) (st := [.inl ((-1 : Int32)), .inl ((0 : Int32)), .inl (r2.1), .inl (x1), .inl (x2), .inl ((1 : Int32)), .inr (.inr ((RH x0 1)))]) rfl (lb rfl) rfl rfl ⟨lb rfl, lb rfl, lb rfl, lb rfl⟩ (fun _ h => Ew_le (lb rfl) (s_X4_of x1 r2.1 (0 : Int32) (-1 : Int32) r2.2 _ h)) (fun r3 => ?_)
  show Snd false none _ _ _ (cN iU) (35, [(0, .inr (.inr (x0))), (1, .inl (x1)), (2, .inl (x2)), (3, .inl (x3))], [.inl (r3.1), .inl (x2), .inl ((1 : Int32)), .inr (.inr ((RH x0 1)))], hp r3.2, 0, 0)
  refine T_cv (i := iU) (as := [.inr (.inr ((RH x0 1))), .inl ((1 : Int32)), .inl (x2), .inl (r3.1)]) (rest := []) (st := [.inl (r3.1), .inl (x2), .inl ((1 : Int32)), .inr (.inr ((RH x0 1)))]) rfl rfl rfl ⟨lb rfl, lb rfl, lb rfl, lb rfl⟩ (fun _ h => Ew_le (lb rfl) (s_X3_send (RH x0 1) (1 : Int32) x2 r3.1 r3.2 _ h)) (fun _ r4 => ?_)
  show Snd false none _ _ _ (cN iU) (38, [(0, .inr (.inr (x0))), (1, .inl (x1)), (2, .inl (x2)), (3, .inl (x3))], [], hp r4.2, 0, 0)
  exact T_ret rfl
def f_X1_forward (x0 : Nat) (x1 : Int32) (x2 : Int32) (x3 : Int32) (σ : eMem) : Option (Unit × eMem) :=
  if (KH x0).1 = 1 then
    if ¬ x1 = (3 : Int32) then
      f_X1_forward_14 x0 x1 x2 x3 (RH x0 2) (5 : Int32) σ
    else
      f_X1_forward_14 x0 x1 x2 x3 (RH x0 2) (4 : Int32) σ
  else none
set_option maxHeartbeats 4000000 in
set_option maxRecDepth 20000 in
theorem s_X1_forward (x0 : Nat) (x1 : Int32) (x2 : Int32) (x3 : Int32) (σ : eMem) : ∀ r, f_X1_forward x0 x1 x2 x3 σ = some r → Ew false 2 31 [.inr (.inr (x0)), .inl (x1), .inl (x2), .inl (x3)] (hp σ) (cN iU r) := by
  refine T_meth (md := m_X1_forward) (d0 := 1) (cv := (cN iU)) rfl (lb rfl) (lb rfl) ?_
  unfold f_X1_forward
  show Snd false none _ _ _ _ (0, [(0, .inr (.inr (x0))), (1, .inl (x1)), (2, .inl (x2)), (3, .inl (x3))], [], hp σ, 0, 0)
  refine T_go (S' := (1, [(0, .inr (.inr (x0))), (1, .inl (x1)), (2, .inl (x2)), (3, .inl (x3))], [.inr (.inr (x0))], hp σ, 0, 0)) 1 rfl ?_
  refine T_getR rfl (fun _ => ?_)
  refine T_go (S' := (6, [(0, .inr (.inr (x0))), (1, .inl (x1)), (2, .inl (x2)), (3, .inl (x3))], [.inl ((3 : Int32)), .inl (x1), .inr (.inr ((RH x0 2)))], hp σ, 0, 0)) 2 rfl ?_
  refine T_icmp_ne 13 rfl rfl (fun _ => ?_) (fun _ => ?_)
  · refine T_go (S' := (14, [(0, .inr (.inr (x0))), (1, .inl (x1)), (2, .inl (x2)), (3, .inl (x3))], [.inl ((5 : Int32)), .inr (.inr ((RH x0 2)))], hp σ, 0, 0)) 1 rfl ?_
    refine T_loc (ls' := [(0, .inr (.inr (x0))), (1, .inl (x1)), (2, .inl (x2)), (3, .inl (x3))]) [0, 1, 2, 3] rfl ?_
    exact s_X1_forward_14 x0 x1 x2 x3 (RH x0 2) (5 : Int32) σ
  · refine T_go (S' := (14, [(0, .inr (.inr (x0))), (1, .inl (x1)), (2, .inl (x2)), (3, .inl (x3))], [.inl ((4 : Int32)), .inr (.inr ((RH x0 2)))], hp σ, 0, 0)) 2 rfl ?_
    refine T_loc (ls' := [(0, .inr (.inr (x0))), (1, .inl (x1)), (2, .inl (x2)), (3, .inl (x3))]) [0, 1, 2, 3] rfl ?_
    exact s_X1_forward_14 x0 x1 x2 x3 (RH x0 2) (4 : Int32) σ
def f_X4_coreOf (x0 : Int32) (σ : eMem) : Option (Int32 × eMem) :=
  some (((x0 >>> ((8 : Int32) &&& 31)) &&& (3 : Int32)), σ)
set_option maxHeartbeats 4000000 in
set_option maxRecDepth 20000 in
theorem s_X4_coreOf (x0 : Int32) (σ : eMem) : ∀ r, f_X4_coreOf x0 σ = some r → Ew false 1 49 [.inl (x0)] (hp σ) (cN iI r) := by
  refine T_meth (md := m_X4_coreOf) (d0 := 0) (cv := (cN iI)) rfl (lb rfl) (lb rfl) ?_
  unfold f_X4_coreOf
  show Snd false none _ _ _ _ (0, [(0, .inl (x0))], [], hp σ, 0, 0)
  refine T_go (S' := (6, [(0, .inl (x0))], [.inl (((x0 >>> ((8 : Int32) &&& 31)) &&& (3 : Int32)))], hp σ, 0, 0)) 5 rfl ?_
  exact T_ret rfl
def f_X1_answer (x0 : Nat) (x1 : Int32) (x2 : Int32) (x3 : Int32) (σ : eMem) : Option (Unit × eMem) :=
  if (KH x0).1 = 1 then
    Option.bind (f_X4_coreOf x2 σ) (fun r1 =>
      Option.bind (f_X4_lineOf x2 r1.2) (fun r2 =>
        Option.bind (f_X4_of x1 r2.1 (0 : Int32) x3 r2.2) (fun r3 =>
          if (KH (RH x0 1)).1 = 3 then
            Option.bind (f_X3_send (RH x0 1) (2 : Int32) r1.1 r3.1 r3.2) (fun r4 =>
              some ((), r4.2)
              )
          else none
          )
        )
      )
  else none
set_option maxHeartbeats 4000000 in
set_option maxRecDepth 20000 in
theorem s_X1_answer (x0 : Nat) (x1 : Int32) (x2 : Int32) (x3 : Int32) (σ : eMem) : ∀ r, f_X1_answer x0 x1 x2 x3 σ = some r → Ew false 2 32 [.inr (.inr (x0)), .inl (x1), .inl (x2), .inl (x3)] (hp σ) (cN iU r) := by
  refine T_meth (md := m_X1_answer) (d0 := 1) (cv := (cN iU)) rfl (lb rfl) (lb rfl) ?_
  unfold f_X1_answer
  show Snd false none _ _ _ _ (0, [(0, .inr (.inr (x0))), (1, .inl (x1)), (2, .inl (x2)), (3, .inl (x3))], [], hp σ, 0, 0)
  refine T_go (S' := (1, [(0, .inr (.inr (x0))), (1, .inl (x1)), (2, .inl (x2)), (3, .inl (x3))], [.inr (.inr (x0))], hp σ, 0, 0)) 1 rfl ?_
  refine T_getR rfl (fun _ => ?_)
  refine T_go (S' := (6, [(0, .inr (.inr (x0))), (1, .inl (x1)), (2, .inl (x2)), (3, .inl (x3))], [.inl (x2), .inl ((2 : Int32)), .inr (.inr ((RH x0 1)))], hp σ, 0, 0)) 2 rfl ?_
  refine T_cs (i := iI) (as := [.inl (x2)]) (rest := [.inl ((2 : Int32)), .inr (.inr ((RH x0 1)))]) (st := [.inl (x2), .inl ((2 : Int32)), .inr (.inr ((RH x0 1)))]) rfl (lb rfl) rfl rfl ⟨lb rfl, lb rfl, lb rfl, lb rfl⟩ (fun _ h => Ew_le (lb rfl) (s_X4_coreOf x2 σ _ h)) (fun r1 => ?_)
  show Snd false none _ _ _ (cN iU) (9, [(0, .inr (.inr (x0))), (1, .inl (x1)), (2, .inl (x2)), (3, .inl (x3))], [.inl (r1.1), .inl ((2 : Int32)), .inr (.inr ((RH x0 1)))], hp r1.2, 0, 0)
  refine T_go (S' := (11, [(0, .inr (.inr (x0))), (1, .inl (x1)), (2, .inl (x2)), (3, .inl (x3))], [.inl (x2), .inl (x1), .inl (r1.1), .inl ((2 : Int32)), .inr (.inr ((RH x0 1)))], hp r1.2, 0, 0)) 2 rfl ?_
  refine T_cs (i := iI) (as := [.inl (x2)]) (rest := [.inl (x1), .inl (r1.1), .inl ((2 : Int32)), .inr (.inr ((RH x0 1)))]) (st := [.inl (x2), .inl (x1), .inl (r1.1), .inl ((2 : Int32)), .inr (.inr ((RH x0 1)))]) rfl (lb rfl) rfl rfl ⟨lb rfl, lb rfl, lb rfl, lb rfl⟩ (fun _ h => Ew_le (lb rfl) (s_X4_lineOf x2 r1.2 _ h)) (fun r2 => ?_)
  show Snd false none _ _ _ (cN iU) (14, [(0, .inr (.inr (x0))), (1, .inl (x1)), (2, .inl (x2)), (3, .inl (x3))], [.inl (r2.1), .inl (x1), .inl (r1.1), .inl ((2 : Int32)), .inr (.inr ((RH x0 1)))], hp r2.2, 0, 0)
  refine T_go (S' := (16, [(0, .inr (.inr (x0))), (1, .inl (x1)), (2, .inl (x2)), (3, .inl (x3))], [.inl (x3), .inl ((0 : Int32)), .inl (r2.1), .inl (x1), .inl (r1.1), .inl ((2 : Int32)), .inr (.inr ((RH x0 1)))], hp r2.2, 0, 0)) 2 rfl ?_
  refine T_cs (i := iI) (as := [.inl (x1), .inl (r2.1), .inl ((0 : Int32)), .inl (x3)]) (rest := [.inl (r1.1), .inl ((2 : Int32)), .inr (.inr ((RH x0 1)))]) (st := [.inl (x3), .inl ((0 : Int32)), .inl (r2.1), .inl (x1), .inl (r1.1), .inl ((2 : Int32)), .inr (.inr ((RH x0 1)))]) rfl (lb rfl) rfl rfl ⟨lb rfl, lb rfl, lb rfl, lb rfl⟩ (fun _ h => Ew_le (lb rfl) (s_X4_of x1 r2.1 (0 : Int32) x3 r2.2 _ h)) (fun r3 => ?_)
  show Snd false none _ _ _ (cN iU) (19, [(0, .inr (.inr (x0))), (1, .inl (x1)), (2, .inl (x2)), (3, .inl (x3))], [.inl (r3.1), .inl (r1.1), .inl ((2 : Int32)), .inr (.inr ((RH x0 1)))], hp r3.2, 0, 0)
  refine T_cv (i := iU) (as := [.inr (.inr ((RH x0 1))), .inl ((2 : Int32)), .inl (r1.1), .inl (r3.1)]) (rest := []) (st := [.inl (r3.1), .inl (r1.1), .inl ((2 : Int32)), .inr (.inr ((RH x0 1)))]) rfl rfl rfl ⟨lb rfl, lb rfl, lb rfl, lb rfl⟩ (fun _ h => Ew_le (lb rfl) (s_X3_send (RH x0 1) (2 : Int32) r1.1 r3.1 r3.2 _ h)) (fun _ r4 => ?_)
  show Snd false none _ _ _ (cN iU) (22, [(0, .inr (.inr (x0))), (1, .inl (x1)), (2, .inl (x2)), (3, .inl (x3))], [], hp r4.2, 0, 0)
  exact T_ret rfl
def f_X2_hasOtherOwner_21 (s0 : Int32) (σ : eMem) : Option (Int32 × eMem) :=
  if eB s0 = true then some (s0, σ) else none
set_option maxHeartbeats 4000000 in
set_option maxRecDepth 20000 in
theorem s_X2_hasOtherOwner_21 (s0 : Int32) (σ : eMem) : Snd false none 0 m_X2_hasOtherOwner (f_X2_hasOtherOwner_21 s0 σ) (cN iI) (21, [], [.inl (s0)], hp σ, 0, 0) := by
  unfold f_X2_hasOtherOwner_21
  exact T_chkr rfl
def f_X2_hasOtherOwner_20  (σ : eMem) : Option (Int32 × eMem) :=
  f_X2_hasOtherOwner_21 (0 : Int32) σ
set_option maxHeartbeats 4000000 in
set_option maxRecDepth 20000 in
theorem s_X2_hasOtherOwner_20  (σ : eMem) : Snd false none 0 m_X2_hasOtherOwner (f_X2_hasOtherOwner_20 σ) (cN iI) (20, [], [], hp σ, 0, 0) := by
  unfold f_X2_hasOtherOwner_20
  refine T_go (S' := (21, [], [.inl ((0 : Int32))], hp σ, 0, 0)) 1 rfl ?_
  refine T_loc (ls' := []) [] rfl ?_
  exact s_X2_hasOtherOwner_21 (0 : Int32) σ
def f_X2_hasOtherOwner (x0 : Nat) (x1 : Int32) (σ : eMem) : Option (Int32 × eMem) :=
  if (KH x0).1 = 2 then
    if (σ.1 x0 1) = (-1 : Int32) then
      f_X2_hasOtherOwner_20  σ
    else
      if (KH x0).1 = 2 then
        if (σ.1 x0 1) = x1 then
          f_X2_hasOtherOwner_20  σ
        else
          f_X2_hasOtherOwner_21 (1 : Int32) σ
      else none
  else none
set_option maxHeartbeats 4000000 in
set_option maxRecDepth 20000 in
theorem s_X2_hasOtherOwner (x0 : Nat) (x1 : Int32) (σ : eMem) : ∀ r, f_X2_hasOtherOwner x0 x1 σ = some r → Ew false 1 34 [.inr (.inr (x0)), .inl (x1)] (hp σ) (cN iI r) := by
  refine T_meth (md := m_X2_hasOtherOwner) (d0 := 0) (cv := (cN iI)) rfl (lb rfl) (lb rfl) ?_
  unfold f_X2_hasOtherOwner
  show Snd false none _ _ _ _ (0, [(0, .inr (.inr (x0))), (1, .inl (x1))], [], hp σ, 0, 0)
  refine T_go (S' := (1, [(0, .inr (.inr (x0))), (1, .inl (x1))], [.inr (.inr (x0))], hp σ, 0, 0)) 1 rfl ?_
  refine T_getI rfl (fun _ => ?_)
  refine T_go (S' := (5, [(0, .inr (.inr (x0))), (1, .inl (x1))], [.inl ((-1 : Int32)), .inl ((σ.1 x0 1))], hp σ, 0, 0)) 1 rfl ?_
  refine T_icmp_eq 20 rfl rfl (fun _ => ?_) (fun _ => ?_)
  · refine T_loc (ls' := []) [] rfl ?_
    exact s_X2_hasOtherOwner_20  σ
  · refine T_go (S' := (9, [(0, .inr (.inr (x0))), (1, .inl (x1))], [.inr (.inr (x0))], hp σ, 0, 0)) 1 rfl ?_
    refine T_getI rfl (fun _ => ?_)
    refine T_go (S' := (13, [(0, .inr (.inr (x0))), (1, .inl (x1))], [.inl (x1), .inl ((σ.1 x0 1))], hp σ, 0, 0)) 1 rfl ?_
    refine T_icmp_eq 20 rfl rfl (fun _ => ?_) (fun _ => ?_)
    · refine T_loc (ls' := []) [] rfl ?_
      exact s_X2_hasOtherOwner_20  σ
    · refine T_go (S' := (21, [(0, .inr (.inr (x0))), (1, .inl (x1))], [.inl ((1 : Int32))], hp σ, 0, 0)) 2 rfl ?_
      refine T_loc (ls' := []) [] rfl ?_
      exact s_X2_hasOtherOwner_21 (1 : Int32) σ
def f_J6_bitCount_48 (x0 : Int32) (σ : eMem) : Option (Int32 × eMem) :=
  some ((x0 &&& (63 : Int32)), σ)
set_option maxHeartbeats 4000000 in
set_option maxRecDepth 20000 in
theorem s_J6_bitCount_48 (x0 : Int32) (σ : eMem) : Snd false none 0 m_J6_bitCount (f_J6_bitCount_48 x0 σ) (cN iI) (48, [(0, .inl (x0))], [], hp σ, 0, 0) := by
  unfold f_J6_bitCount_48
  refine T_go (S' := (52, [(0, .inl (x0))], [.inl ((x0 &&& (63 : Int32)))], hp σ, 0, 0)) 3 rfl ?_
  exact T_ret rfl
def f_J6_bitCount_41 (x0 : Int32) (σ : eMem) : Option (Int32 × eMem) :=
  eLet ((x0 + ((x0.toUInt32 >>> ((16 : Int32).toUInt32 &&& Int32.toUInt32 31)).toInt32)) : Int32) (fun v1 =>
    f_J6_bitCount_48 v1 σ
    )
set_option maxHeartbeats 4000000 in
set_option maxRecDepth 20000 in
theorem s_J6_bitCount_41 (x0 : Int32) (σ : eMem) : Snd false none 0 m_J6_bitCount (f_J6_bitCount_41 x0 σ) (cN iI) (41, [(0, .inl (x0))], [], hp σ, 0, 0) := by
  unfold f_J6_bitCount_41
  refine T_go (S' := (48, [(0, .inl ((x0 + ((x0.toUInt32 >>> ((16 : Int32).toUInt32 &&& Int32.toUInt32 31)).toInt32))))], [], hp σ, 0, 0)) 6 rfl ?_
  refine T_let (Sf := fun v1 => (48, [(0, .inl (v1))], [], hp σ, 0, 0)) (fun v1 => ?_)
  refine T_loc (ls' := [(0, .inl (v1))]) [0] rfl ?_
  exact s_J6_bitCount_48 v1 σ
def f_J6_bitCount_34 (x0 : Int32) (σ : eMem) : Option (Int32 × eMem) :=
  eLet ((x0 + ((x0.toUInt32 >>> ((8 : Int32).toUInt32 &&& Int32.toUInt32 31)).toInt32)) : Int32) (fun v1 =>
    f_J6_bitCount_41 v1 σ
    )
set_option maxHeartbeats 4000000 in
set_option maxRecDepth 20000 in
theorem s_J6_bitCount_34 (x0 : Int32) (σ : eMem) : Snd false none 0 m_J6_bitCount (f_J6_bitCount_34 x0 σ) (cN iI) (34, [(0, .inl (x0))], [], hp σ, 0, 0) := by
  unfold f_J6_bitCount_34
  refine T_go (S' := (41, [(0, .inl ((x0 + ((x0.toUInt32 >>> ((8 : Int32).toUInt32 &&& Int32.toUInt32 31)).toInt32))))], [], hp σ, 0, 0)) 6 rfl ?_
  refine T_let (Sf := fun v1 => (41, [(0, .inl (v1))], [], hp σ, 0, 0)) (fun v1 => ?_)
  refine T_loc (ls' := [(0, .inl (v1))]) [0] rfl ?_
  exact s_J6_bitCount_41 v1 σ
def f_J6_bitCount_24 (x0 : Int32) (σ : eMem) : Option (Int32 × eMem) :=
  eLet (((x0 + ((x0.toUInt32 >>> ((4 : Int32).toUInt32 &&& Int32.toUInt32 31)).toInt32)) &&& (252645135 : Int32)) : Int32) (fun v1 =>
    f_J6_bitCount_34 v1 σ
    )
set_option maxHeartbeats 4000000 in
set_option maxRecDepth 20000 in
theorem s_J6_bitCount_24 (x0 : Int32) (σ : eMem) : Snd false none 0 m_J6_bitCount (f_J6_bitCount_24 x0 σ) (cN iI) (24, [(0, .inl (x0))], [], hp σ, 0, 0) := by
  unfold f_J6_bitCount_24
  refine T_go (S' := (34, [(0, .inl (((x0 + ((x0.toUInt32 >>> ((4 : Int32).toUInt32 &&& Int32.toUInt32 31)).toInt32)) &&& (252645135 : Int32))))], [], hp σ, 0, 0)) 8 rfl ?_
  refine T_let (Sf := fun v1 => (34, [(0, .inl (v1))], [], hp σ, 0, 0)) (fun v1 => ?_)
  refine T_loc (ls' := [(0, .inl (v1))]) [0] rfl ?_
  exact s_J6_bitCount_34 v1 σ
def f_J6_bitCount_10 (x0 : Int32) (σ : eMem) : Option (Int32 × eMem) :=
  eLet (((x0 &&& (858993459 : Int32)) + (((x0.toUInt32 >>> ((2 : Int32).toUInt32 &&& Int32.toUInt32 31)).toInt32) &&& (858993459 : Int32))) : Int32) (fun v1 =>
    f_J6_bitCount_24 v1 σ
    )
set_option maxHeartbeats 4000000 in
set_option maxRecDepth 20000 in
theorem s_J6_bitCount_10 (x0 : Int32) (σ : eMem) : Snd false none 0 m_J6_bitCount (f_J6_bitCount_10 x0 σ) (cN iI) (10, [(0, .inl (x0))], [], hp σ, 0, 0) := by
  unfold f_J6_bitCount_10
  refine T_go (S' := (24, [(0, .inl (((x0 &&& (858993459 : Int32)) + (((x0.toUInt32 >>> ((2 : Int32).toUInt32 &&& Int32.toUInt32 31)).toInt32) &&& (858993459 : Int32)))))], [], hp σ, 0, 0)) 10 rfl ?_
  refine T_let (Sf := fun v1 => (24, [(0, .inl (v1))], [], hp σ, 0, 0)) (fun v1 => ?_)
  refine T_loc (ls' := [(0, .inl (v1))]) [0] rfl ?_
  exact s_J6_bitCount_24 v1 σ
def f_J6_bitCount (x0 : Int32) (σ : eMem) : Option (Int32 × eMem) :=
  eLet ((x0 - (((x0.toUInt32 >>> ((1 : Int32).toUInt32 &&& Int32.toUInt32 31)).toInt32) &&& (1431655765 : Int32))) : Int32) (fun v1 =>
    f_J6_bitCount_10 v1 σ
    )
set_option maxHeartbeats 4000000 in
set_option maxRecDepth 20000 in
theorem s_J6_bitCount (x0 : Int32) (σ : eMem) : ∀ r, f_J6_bitCount x0 σ = some r → Ew false 1 205 [.inl (x0)] (hp σ) (cN iI r) := by
  refine T_meth (md := m_J6_bitCount) (d0 := 0) (cv := (cN iI)) rfl (lb rfl) (lb rfl) ?_
  unfold f_J6_bitCount
  show Snd false none _ _ _ _ (0, [(0, .inl (x0))], [], hp σ, 0, 0)
  refine T_go (S' := (10, [(0, .inl ((x0 - (((x0.toUInt32 >>> ((1 : Int32).toUInt32 &&& Int32.toUInt32 31)).toInt32) &&& (1431655765 : Int32)))))], [], hp σ, 0, 0)) 8 rfl ?_
  refine T_let (Sf := fun v1 => (10, [(0, .inl (v1))], [], hp σ, 0, 0)) (fun v1 => ?_)
  refine T_loc (ls' := [(0, .inl (v1))]) [0] rfl ?_
  exact s_J6_bitCount_10 v1 σ
def f_X2_addSharer_43 (x3 : Int32) (s0 : Nat) (s1 : Int32) (σ : eMem) : Option (Int32 × eMem) :=
  if (KH s0).1 = 2 then eLet ((eup σ.1 s0 2 s1, σ.2) : eMem) (fun σ1 =>
    if eB x3 = true then some (x3, σ1) else none
    ) else none
set_option maxHeartbeats 4000000 in
set_option maxRecDepth 20000 in
theorem s_X2_addSharer_43 (x3 : Int32) (s0 : Nat) (s1 : Int32) (σ : eMem) : Snd false none 1 m_X2_addSharer (f_X2_addSharer_43 x3 s0 s1 σ) (cN iI) (43, [(3, .inl (x3))], [.inl (s1), .inr (.inr (s0))], hp σ, 0, 0) := by
  unfold f_X2_addSharer_43
  refine T_putI rfl (fun _ => ?_)
  refine T_let (Sf := fun σ1 => (46, [(3, .inl (x3))], [], hp σ1, 0, 0)) (fun σ1 => ?_)
  refine T_go (S' := (47, [(3, .inl (x3))], [.inl (x3)], hp σ1, 0, 0)) 1 rfl ?_
  exact T_chkr rfl
def f_X2_addSharer_31 (x0 : Nat) (x2 : Int32) (s0 : Int32) (σ : eMem) : Option (Int32 × eMem) :=
  if s0 = (0 : Int32) then
    f_X2_addSharer_43 s0 x0 x2 σ
  else
    f_X2_addSharer_43 s0 x0 (15 : Int32) σ
set_option maxHeartbeats 4000000 in
set_option maxRecDepth 20000 in
theorem s_X2_addSharer_31 (x0 : Nat) (x2 : Int32) (s0 : Int32) (σ : eMem) : Snd false none 1 m_X2_addSharer (f_X2_addSharer_31 x0 x2 s0 σ) (cN iI) (31, [(0, .inr (.inr (x0))), (2, .inl (x2))], [.inl (s0)], hp σ, 0, 0) := by
  unfold f_X2_addSharer_31
  refine T_go (S' := (34, [(3, .inl (s0)), (0, .inr (.inr (x0))), (2, .inl (x2))], [.inl (s0), .inr (.inr (x0))], hp σ, 0, 0)) 3 rfl ?_
  refine T_if_eq 42 rfl rfl (fun _ => ?_) (fun _ => ?_)
  · refine T_go (S' := (43, [(3, .inl (s0)), (0, .inr (.inr (x0))), (2, .inl (x2))], [.inl (x2), .inr (.inr (x0))], hp σ, 0, 0)) 1 rfl ?_
    refine T_loc (ls' := [(3, .inl (s0))]) [0] rfl ?_
    exact s_X2_addSharer_43 s0 x0 x2 σ
  · refine T_go (S' := (43, [(3, .inl (s0)), (0, .inr (.inr (x0))), (2, .inl (x2))], [.inl ((15 : Int32)), .inr (.inr (x0))], hp σ, 0, 0)) 2 rfl ?_
    refine T_loc (ls' := [(3, .inl (s0))]) [0] rfl ?_
    exact s_X2_addSharer_43 s0 x0 (15 : Int32) σ
def f_X2_addSharer_30 (x0 : Nat) (x2 : Int32) (σ : eMem) : Option (Int32 × eMem) :=
  f_X2_addSharer_31 x0 x2 (0 : Int32) σ
set_option maxHeartbeats 4000000 in
set_option maxRecDepth 20000 in
theorem s_X2_addSharer_30 (x0 : Nat) (x2 : Int32) (σ : eMem) : Snd false none 1 m_X2_addSharer (f_X2_addSharer_30 x0 x2 σ) (cN iI) (30, [(0, .inr (.inr (x0))), (2, .inl (x2))], [], hp σ, 0, 0) := by
  unfold f_X2_addSharer_30
  refine T_go (S' := (31, [(0, .inr (.inr (x0))), (2, .inl (x2))], [.inl ((0 : Int32))], hp σ, 0, 0)) 1 rfl ?_
  refine T_loc (ls' := [(0, .inr (.inr (x0))), (2, .inl (x2))]) [0, 1] rfl ?_
  exact s_X2_addSharer_31 x0 x2 (0 : Int32) σ
def f_X2_addSharer (x0 : Nat) (x1 : Int32) (σ : eMem) : Option (Int32 × eMem) :=
  if (KH x0).1 = 2 then
    eLet (((σ.1 x0 2) ||| ((1 : Int32) <<< (x1 &&& 31))) : Int32) (fun v1 =>
      if (KH x0).1 = 2 then
        if (σ.1 x0 2) = (15 : Int32) then
          f_X2_addSharer_30 x0 v1 σ
        else
          Option.bind (f_J6_bitCount v1 σ) (fun r2 =>
            if r2.1 ≤ (2 : Int32) then
              f_X2_addSharer_30 x0 v1 r2.2
            else
              f_X2_addSharer_31 x0 v1 (1 : Int32) r2.2
            )
      else none
      )
  else none
set_option maxHeartbeats 4000000 in
set_option maxRecDepth 20000 in
theorem s_X2_addSharer (x0 : Nat) (x1 : Int32) (σ : eMem) : ∀ r, f_X2_addSharer x0 x1 σ = some r → Ew false 2 35 [.inr (.inr (x0)), .inl (x1)] (hp σ) (cN iI r) := by
  refine T_meth (md := m_X2_addSharer) (d0 := 1) (cv := (cN iI)) rfl (lb rfl) (lb rfl) ?_
  unfold f_X2_addSharer
  show Snd false none _ _ _ _ (0, [(0, .inr (.inr (x0))), (1, .inl (x1))], [], hp σ, 0, 0)
  refine T_go (S' := (1, [(0, .inr (.inr (x0))), (1, .inl (x1))], [.inr (.inr (x0))], hp σ, 0, 0)) 1 rfl ?_
  refine T_getI rfl (fun _ => ?_)
  refine T_go (S' := (9, [(2, .inl (((σ.1 x0 2) ||| ((1 : Int32) <<< (x1 &&& 31))))), (0, .inr (.inr (x0))), (1, .inl (x1))], [], hp σ, 0, 0)) 5 rfl ?_
  refine T_let (Sf := fun v1 => (9, [(2, .inl (v1)), (0, .inr (.inr (x0))), (1, .inl (x1))], [], hp σ, 0, 0)) (fun v1 => ?_)
  refine T_go (S' := (10, [(2, .inl (v1)), (0, .inr (.inr (x0))), (1, .inl (x1))], [.inr (.inr (x0))], hp σ, 0, 0)) 1 rfl ?_
  refine T_getI rfl (fun _ => ?_)
  refine T_go (S' := (15, [(2, .inl (v1)), (0, .inr (.inr (x0))), (1, .inl (x1))], [.inl ((15 : Int32)), .inl ((σ.1 x0 2))], hp σ, 0, 0)) 1 rfl ?_
  refine T_icmp_eq 30 rfl rfl (fun _ => ?_) (fun _ => ?_)
  · refine T_loc (ls' := [(0, .inr (.inr (x0))), (2, .inl (v1))]) [1, 0] rfl ?_
    exact s_X2_addSharer_30 x0 v1 σ
  · refine T_go (S' := (19, [(2, .inl (v1)), (0, .inr (.inr (x0))), (1, .inl (x1))], [.inl (v1)], hp σ, 0, 0)) 1 rfl ?_
    refine T_cs (i := iI) (as := [.inl (v1)]) (rest := []) (st := [.inl (v1)]) rfl (lb rfl) rfl rfl ⟨lb rfl, lb rfl, lb rfl, lb rfl⟩ (fun _ h => Ew_le (lb rfl) (s_J6_bitCount v1 σ _ h)) (fun r2 => ?_)
    show Snd false none _ _ _ (cN iI) (22, [(2, .inl (v1)), (0, .inr (.inr (x0))), (1, .inl (x1))], [.inl (r2.1)], hp r2.2, 0, 0)
    refine T_go (S' := (23, [(2, .inl (v1)), (0, .inr (.inr (x0))), (1, .inl (x1))], [.inl ((2 : Int32)), .inl (r2.1)], hp r2.2, 0, 0)) 1 rfl ?_
    refine T_icmp_le 30 rfl rfl (fun _ => ?_) (fun _ => ?_)
    · refine T_loc (ls' := [(0, .inr (.inr (x0))), (2, .inl (v1))]) [1, 0] rfl ?_
      exact s_X2_addSharer_30 x0 v1 r2.2
    · refine T_go (S' := (31, [(2, .inl (v1)), (0, .inr (.inr (x0))), (1, .inl (x1))], [.inl ((1 : Int32))], hp r2.2, 0, 0)) 2 rfl ?_
      refine T_loc (ls' := [(0, .inr (.inr (x0))), (2, .inl (v1))]) [1, 0] rfl ?_
      exact s_X2_addSharer_31 x0 v1 (1 : Int32) r2.2
def f_X2_waitForAnswers (x0 : Nat) (x1 : Int32) (x2 : Int32) (σ : eMem) : Option (Unit × eMem) :=
  if (KH x0).1 = 2 ∧ eB (1 : Int32) = true then eLet ((eup σ.1 x0 3 (1 : Int32), σ.2) : eMem) (fun σ1 =>
    if (KH x0).1 = 2 then eLet ((eup σ1.1 x0 4 x1, σ1.2) : eMem) (fun σ2 =>
      if (KH x0).1 = 2 then eLet ((eup σ2.1 x0 5 x2, σ2.2) : eMem) (fun σ3 =>
        some ((), σ3)
        ) else none
      ) else none
    ) else none
set_option maxHeartbeats 4000000 in
set_option maxRecDepth 20000 in
theorem s_X2_waitForAnswers (x0 : Nat) (x1 : Int32) (x2 : Int32) (σ : eMem) : ∀ r, f_X2_waitForAnswers x0 x1 x2 σ = some r → Ew false 1 40 [.inr (.inr (x0)), .inl (x1), .inl (x2)] (hp σ) (cN iU r) := by
  refine T_meth (md := m_X2_waitForAnswers) (d0 := 0) (cv := (cN iU)) rfl (lb rfl) (lb rfl) ?_
  unfold f_X2_waitForAnswers
  show Snd false none _ _ _ _ (0, [(0, .inr (.inr (x0))), (1, .inl (x1)), (2, .inl (x2))], [], hp σ, 0, 0)
  refine T_go (S' := (2, [(0, .inr (.inr (x0))), (1, .inl (x1)), (2, .inl (x2))], [.inl ((1 : Int32)), .inr (.inr (x0))], hp σ, 0, 0)) 2 rfl ?_
  refine T_putZ rfl (fun _ => ?_)
  refine T_let (Sf := fun σ1 => (5, [(0, .inr (.inr (x0))), (1, .inl (x1)), (2, .inl (x2))], [], hp σ1, 0, 0)) (fun σ1 => ?_)
  refine T_go (S' := (7, [(0, .inr (.inr (x0))), (1, .inl (x1)), (2, .inl (x2))], [.inl (x1), .inr (.inr (x0))], hp σ1, 0, 0)) 2 rfl ?_
  refine T_putI rfl (fun _ => ?_)
  refine T_let (Sf := fun σ2 => (10, [(0, .inr (.inr (x0))), (1, .inl (x1)), (2, .inl (x2))], [], hp σ2, 0, 0)) (fun σ2 => ?_)
  refine T_go (S' := (12, [(0, .inr (.inr (x0))), (1, .inl (x1)), (2, .inl (x2))], [.inl (x2), .inr (.inr (x0))], hp σ2, 0, 0)) 2 rfl ?_
  refine T_putI rfl (fun _ => ?_)
  refine T_let (Sf := fun σ3 => (15, [(0, .inr (.inr (x0))), (1, .inl (x1)), (2, .inl (x2))], [], hp σ3, 0, 0)) (fun σ3 => ?_)
  exact T_ret rfl
def f_X1_serveRead_88  (σ : eMem) : Option (Unit × eMem) :=
  some ((), σ)
set_option maxHeartbeats 4000000 in
set_option maxRecDepth 20000 in
theorem s_X1_serveRead_88  (σ : eMem) : Snd false none 2 m_X1_serveRead (f_X1_serveRead_88 σ) (cN iU) (88, [], [], hp σ, 0, 0) := by
  unfold f_X1_serveRead_88
  exact T_ret rfl
def f_X1_serveRead_77 (x0 : Nat) (x1 : Nat) (x2 : Int32) (σ : eMem) : Option (Unit × eMem) :=
  if (KH x1).1 = 2 then
    if (KH x0).1 = 1 then
      Option.bind (f_X1_answer x0 (6 : Int32) x2 (σ.1 x1 0) σ) (fun r1 =>
        f_X1_serveRead_88  r1.2
        )
    else none
  else none
set_option maxHeartbeats 4000000 in
set_option maxRecDepth 20000 in
theorem s_X1_serveRead_77 (x0 : Nat) (x1 : Nat) (x2 : Int32) (σ : eMem) : Snd false none 2 m_X1_serveRead (f_X1_serveRead_77 x0 x1 x2 σ) (cN iU) (77, [(0, .inr (.inr (x0))), (1, .inr (.inr (x1))), (2, .inl (x2))], [], hp σ, 0, 0) := by
  unfold f_X1_serveRead_77
  refine T_go (S' := (82, [(0, .inr (.inr (x0))), (1, .inr (.inr (x1))), (2, .inl (x2))], [.inr (.inr (x1)), .inl (x2), .inl ((6 : Int32)), .inr (.inr (x0))], hp σ, 0, 0)) 4 rfl ?_
  refine T_getI rfl (fun _ => ?_)
  refine T_cv (i := iU) (as := [.inr (.inr (x0)), .inl ((6 : Int32)), .inl (x2), .inl ((σ.1 x1 0))]) (rest := []) (st := [.inl ((σ.1 x1 0)), .inl (x2), .inl ((6 : Int32)), .inr (.inr (x0))]) rfl rfl rfl ⟨lb rfl, lb rfl, lb rfl, lb rfl⟩ (fun _ h => Ew_le (lb rfl) (s_X1_answer x0 (6 : Int32) x2 (σ.1 x1 0) σ _ h)) (fun _ r1 => ?_)
  show Snd false none _ _ _ (cN iU) (88, [(0, .inr (.inr (x0))), (1, .inr (.inr (x1))), (2, .inl (x2))], [], hp r1.2, 0, 0)
  refine T_loc (ls' := []) [] rfl ?_
  exact s_X1_serveRead_88  r1.2
def f_X1_serveRead (x0 : Nat) (x1 : Nat) (x2 : Int32) (σ : eMem) : Option (Unit × eMem) :=
  Option.bind (f_X4_coreOf x2 σ) (fun r1 =>
    if (KH x1).1 = 2 then
      Option.bind (f_X2_hasOtherOwner x1 r1.1 r1.2) (fun r2 =>
        if r2.1 = (0 : Int32) then
          if (KH x1).1 = 2 then
            if ¬ (r2.2.1 x1 2) = (0 : Int32) then
              if (KH x1).1 = 2 then
                Option.bind (f_X2_addSharer x1 r1.1 r2.2) (fun r3 =>
                  if r3.1 = (0 : Int32) then
                    f_X1_serveRead_77 x0 x1 x2 r3.2
                  else
                    if (KH x0).1 = 1 then
                      if (KH (RH x0 2)).1 = 11 ∧ eix (9 : Int32) (KH (RH x0 2)).2 = true then
                        if (KH (RH x0 2)).1 = 11 ∧ eix (9 : Int32) (KH (RH x0 2)).2 = true then eLet ((eup r3.2.1 (RH x0 2) (9 : Int32).toNatClampNeg ((r3.2.1 (RH x0 2) (9 : Int32).toNatClampNeg) + (1 : Int32)), r3.2.2) : eMem) (fun σ4 =>
                          f_X1_serveRead_77 x0 x1 x2 σ4
                          ) else none
                      else none
                    else none
                  )
              else none
            else
              if (KH x1).1 = 2 then eLet ((eup r2.2.1 x1 1 r1.1, r2.2.2) : eMem) (fun σ5 =>
                if (KH x1).1 = 2 then
                  if (KH x0).1 = 1 then
                    Option.bind (f_X1_answer x0 (7 : Int32) x2 (σ5.1 x1 0) σ5) (fun r6 =>
                      f_X1_serveRead_88  r6.2
                      )
                  else none
                else none
                ) else none
          else none
        else
          if (KH x1).1 = 2 then
            if (KH x0).1 = 1 then
              Option.bind (f_X1_forward x0 (4 : Int32) (r2.2.1 x1 1) x2 r2.2) (fun r7 =>
                if (KH x1).1 = 2 then
                  Option.bind (f_X2_waitForAnswers x1 x2 (1 : Int32) r7.2) (fun r8 =>
                    f_X1_serveRead_88  r8.2
                    )
                else none
                )
            else none
          else none
        )
    else none
    )
set_option maxHeartbeats 4000000 in
set_option maxRecDepth 20000 in
theorem s_X1_serveRead (x0 : Nat) (x1 : Nat) (x2 : Int32) (σ : eMem) : ∀ r, f_X1_serveRead x0 x1 x2 σ = some r → Ew false 3 27 [.inr (.inr (x0)), .inr (.inr (x1)), .inl (x2)] (hp σ) (cN iU r) := by
  refine T_meth (md := m_X1_serveRead) (d0 := 2) (cv := (cN iU)) rfl (lb rfl) (lb rfl) ?_
  unfold f_X1_serveRead
  show Snd false none _ _ _ _ (0, [(0, .inr (.inr (x0))), (1, .inr (.inr (x1))), (2, .inl (x2))], [], hp σ, 0, 0)
  refine T_go (S' := (1, [(0, .inr (.inr (x0))), (1, .inr (.inr (x1))), (2, .inl (x2))], [.inl (x2)], hp σ, 0, 0)) 1 rfl ?_
  refine T_cs (i := iI) (as := [.inl (x2)]) (rest := []) (st := [.inl (x2)]) rfl (lb rfl) rfl rfl ⟨lb rfl, lb rfl, lb rfl, lb rfl⟩ (fun _ h => Ew_le (lb rfl) (s_X4_coreOf x2 σ _ h)) (fun r1 => ?_)
  show Snd false none _ _ _ (cN iU) (4, [(0, .inr (.inr (x0))), (1, .inr (.inr (x1))), (2, .inl (x2))], [.inl (r1.1)], hp r1.2, 0, 0)
  refine T_go (S' := (7, [(3, .inl (r1.1)), (0, .inr (.inr (x0))), (1, .inr (.inr (x1))), (2, .inl (x2))], [.inl (r1.1), .inr (.inr (x1))], hp r1.2, 0, 0)) 3 rfl ?_
  refine T_cv (i := iI) (as := [.inr (.inr (x1)), .inl (r1.1)]) (rest := []) (st := [.inl (r1.1), .inr (.inr (x1))]) rfl rfl rfl ⟨lb rfl, lb rfl, lb rfl, lb rfl⟩ (fun _ h => Ew_le (lb rfl) (s_X2_hasOtherOwner x1 r1.1 r1.2 _ h)) (fun _ r2 => ?_)
  show Snd false none _ _ _ (cN iU) (10, [(3, .inl (r1.1)), (0, .inr (.inr (x0))), (1, .inr (.inr (x1))), (2, .inl (x2))], [.inl (r2.1)], hp r2.2, 0, 0)
  refine T_if_eq 32 rfl rfl (fun _ => ?_) (fun _ => ?_)
  · refine T_go (S' := (33, [(3, .inl (r1.1)), (0, .inr (.inr (x0))), (1, .inr (.inr (x1))), (2, .inl (x2))], [.inr (.inr (x1))], hp r2.2, 0, 0)) 1 rfl ?_
    refine T_getI rfl (fun _ => ?_)
    refine T_if_ne 58 rfl rfl (fun _ => ?_) (fun _ => ?_)
    · refine T_go (S' := (60, [(3, .inl (r1.1)), (0, .inr (.inr (x0))), (1, .inr (.inr (x1))), (2, .inl (x2))], [.inl (r1.1), .inr (.inr (x1))], hp r2.2, 0, 0)) 2 rfl ?_
      refine T_cv (i := iI) (as := [.inr (.inr (x1)), .inl (r1.1)]) (rest := []) (st := [.inl (r1.1), .inr (.inr (x1))]) rfl rfl rfl ⟨lb rfl, lb rfl, lb rfl, lb rfl⟩ (fun _ h => Ew_le (lb rfl) (s_X2_addSharer x1 r1.1 r2.2 _ h)) (fun _ r3 => ?_)
      show Snd false none _ _ _ (cN iU) (63, [(3, .inl (r1.1)), (0, .inr (.inr (x0))), (1, .inr (.inr (x1))), (2, .inl (x2))], [.inl (r3.1)], hp r3.2, 0, 0)
      refine T_if_eq 77 rfl rfl (fun _ => ?_) (fun _ => ?_)
      · refine T_loc (ls' := [(0, .inr (.inr (x0))), (1, .inr (.inr (x1))), (2, .inl (x2))]) [1, 2, 3] rfl ?_
        exact s_X1_serveRead_77 x0 x1 x2 r3.2
      · refine T_go (S' := (67, [(3, .inl (r1.1)), (0, .inr (.inr (x0))), (1, .inr (.inr (x1))), (2, .inl (x2))], [.inr (.inr (x0))], hp r3.2, 0, 0)) 1 rfl ?_
        refine T_getR rfl (fun _ => ?_)
        refine T_go (S' := (73, [(3, .inl (r1.1)), (0, .inr (.inr (x0))), (1, .inr (.inr (x1))), (2, .inl (x2))], [.inl ((9 : Int32)), .inr (.inr ((RH x0 2))), .inl ((9 : Int32)), .inr (.inr ((RH x0 2)))], hp r3.2, 0, 0)) 2 rfl ?_
        refine T_iald rfl (fun _ => ?_)
        refine T_go (S' := (76, [(3, .inl (r1.1)), (0, .inr (.inr (x0))), (1, .inr (.inr (x1))), (2, .inl (x2))], [.inl (((r3.2.1 (RH x0 2) (9 : Int32).toNatClampNeg) + (1 : Int32))), .inl ((9 : Int32)), .inr (.inr ((RH x0 2)))], hp r3.2, 0, 0)) 2 rfl ?_
        refine T_iast rfl (fun _ => ?_)
        refine T_let (Sf := fun σ4 => (77, [(3, .inl (r1.1)), (0, .inr (.inr (x0))), (1, .inr (.inr (x1))), (2, .inl (x2))], [], hp σ4, 0, 0)) (fun σ4 => ?_)
        refine T_loc (ls' := [(0, .inr (.inr (x0))), (1, .inr (.inr (x1))), (2, .inl (x2))]) [1, 2, 3] rfl ?_
        exact s_X1_serveRead_77 x0 x1 x2 σ4
    · refine T_go (S' := (41, [(3, .inl (r1.1)), (0, .inr (.inr (x0))), (1, .inr (.inr (x1))), (2, .inl (x2))], [.inl (r1.1), .inr (.inr (x1))], hp r2.2, 0, 0)) 2 rfl ?_
      refine T_putI rfl (fun _ => ?_)
      refine T_let (Sf := fun σ5 => (44, [(3, .inl (r1.1)), (0, .inr (.inr (x0))), (1, .inr (.inr (x1))), (2, .inl (x2))], [], hp σ5, 0, 0)) (fun σ5 => ?_)
      refine T_go (S' := (49, [(3, .inl (r1.1)), (0, .inr (.inr (x0))), (1, .inr (.inr (x1))), (2, .inl (x2))], [.inr (.inr (x1)), .inl (x2), .inl ((7 : Int32)), .inr (.inr (x0))], hp σ5, 0, 0)) 4 rfl ?_
      refine T_getI rfl (fun _ => ?_)
      refine T_cv (i := iU) (as := [.inr (.inr (x0)), .inl ((7 : Int32)), .inl (x2), .inl ((σ5.1 x1 0))]) (rest := []) (st := [.inl ((σ5.1 x1 0)), .inl (x2), .inl ((7 : Int32)), .inr (.inr (x0))]) rfl rfl rfl ⟨lb rfl, lb rfl, lb rfl, lb rfl⟩ (fun _ h => Ew_le (lb rfl) (s_X1_answer x0 (7 : Int32) x2 (σ5.1 x1 0) σ5 _ h)) (fun _ r6 => ?_)
      show Snd false none _ _ _ (cN iU) (55, [(3, .inl (r1.1)), (0, .inr (.inr (x0))), (1, .inr (.inr (x1))), (2, .inl (x2))], [], hp r6.2, 0, 0)
      refine T_go (S' := (88, [(3, .inl (r1.1)), (0, .inr (.inr (x0))), (1, .inr (.inr (x1))), (2, .inl (x2))], [], hp r6.2, 0, 0)) 1 rfl ?_
      refine T_loc (ls' := []) [] rfl ?_
      exact s_X1_serveRead_88  r6.2
  · refine T_go (S' := (16, [(3, .inl (r1.1)), (0, .inr (.inr (x0))), (1, .inr (.inr (x1))), (2, .inl (x2))], [.inr (.inr (x1)), .inl ((4 : Int32)), .inr (.inr (x0))], hp r2.2, 0, 0)) 3 rfl ?_
    refine T_getI rfl (fun _ => ?_)
    refine T_go (S' := (20, [(3, .inl (r1.1)), (0, .inr (.inr (x0))), (1, .inr (.inr (x1))), (2, .inl (x2))], [.inl (x2), .inl ((r2.2.1 x1 1)), .inl ((4 : Int32)), .inr (.inr (x0))], hp r2.2, 0, 0)) 1 rfl ?_
    refine T_cv (i := iU) (as := [.inr (.inr (x0)), .inl ((4 : Int32)), .inl ((r2.2.1 x1 1)), .inl (x2)]) (rest := []) (st := [.inl (x2), .inl ((r2.2.1 x1 1)), .inl ((4 : Int32)), .inr (.inr (x0))]) rfl rfl rfl ⟨lb rfl, lb rfl, lb rfl, lb rfl⟩ (fun _ h => Ew_le (lb rfl) (s_X1_forward x0 (4 : Int32) (r2.2.1 x1 1) x2 r2.2 _ h)) (fun _ r7 => ?_)
    show Snd false none _ _ _ (cN iU) (23, [(3, .inl (r1.1)), (0, .inr (.inr (x0))), (1, .inr (.inr (x1))), (2, .inl (x2))], [], hp r7.2, 0, 0)
    refine T_go (S' := (26, [(3, .inl (r1.1)), (0, .inr (.inr (x0))), (1, .inr (.inr (x1))), (2, .inl (x2))], [.inl ((1 : Int32)), .inl (x2), .inr (.inr (x1))], hp r7.2, 0, 0)) 3 rfl ?_
    refine T_cv (i := iU) (as := [.inr (.inr (x1)), .inl (x2), .inl ((1 : Int32))]) (rest := []) (st := [.inl ((1 : Int32)), .inl (x2), .inr (.inr (x1))]) rfl rfl rfl ⟨lb rfl, lb rfl, lb rfl, lb rfl⟩ (fun _ h => Ew_le (lb rfl) (s_X2_waitForAnswers x1 x2 (1 : Int32) r7.2 _ h)) (fun _ r8 => ?_)
    show Snd false none _ _ _ (cN iU) (29, [(3, .inl (r1.1)), (0, .inr (.inr (x0))), (1, .inr (.inr (x1))), (2, .inl (x2))], [], hp r8.2, 0, 0)
    refine T_go (S' := (88, [(3, .inl (r1.1)), (0, .inr (.inr (x0))), (1, .inr (.inr (x1))), (2, .inl (x2))], [], hp r8.2, 0, 0)) 1 rfl ?_
    refine T_loc (ls' := []) [] rfl ?_
    exact s_X1_serveRead_88  r8.2
def f_X2_belongTo (x0 : Nat) (x1 : Int32) (σ : eMem) : Option (Unit × eMem) :=
  if (KH x0).1 = 2 then eLet ((eup σ.1 x0 1 x1, σ.2) : eMem) (fun σ1 =>
    if (KH x0).1 = 2 then eLet ((eup σ1.1 x0 2 (0 : Int32), σ1.2) : eMem) (fun σ2 =>
      some ((), σ2)
      ) else none
    ) else none
set_option maxHeartbeats 4000000 in
set_option maxRecDepth 20000 in
theorem s_X2_belongTo (x0 : Nat) (x1 : Int32) (σ : eMem) : ∀ r, f_X2_belongTo x0 x1 σ = some r → Ew false 1 36 [.inr (.inr (x0)), .inl (x1)] (hp σ) (cN iU r) := by
  refine T_meth (md := m_X2_belongTo) (d0 := 0) (cv := (cN iU)) rfl (lb rfl) (lb rfl) ?_
  unfold f_X2_belongTo
  show Snd false none _ _ _ _ (0, [(0, .inr (.inr (x0))), (1, .inl (x1))], [], hp σ, 0, 0)
  refine T_go (S' := (2, [(0, .inr (.inr (x0))), (1, .inl (x1))], [.inl (x1), .inr (.inr (x0))], hp σ, 0, 0)) 2 rfl ?_
  refine T_putI rfl (fun _ => ?_)
  refine T_let (Sf := fun σ1 => (5, [(0, .inr (.inr (x0))), (1, .inl (x1))], [], hp σ1, 0, 0)) (fun σ1 => ?_)
  refine T_go (S' := (7, [(0, .inr (.inr (x0))), (1, .inl (x1))], [.inl ((0 : Int32)), .inr (.inr (x0))], hp σ1, 0, 0)) 2 rfl ?_
  refine T_putI rfl (fun _ => ?_)
  refine T_let (Sf := fun σ2 => (10, [(0, .inr (.inr (x0))), (1, .inl (x1))], [], hp σ2, 0, 0)) (fun σ2 => ?_)
  exact T_ret rfl
