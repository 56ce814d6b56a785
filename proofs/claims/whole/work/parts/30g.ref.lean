/-! what the methods do -/
def f_X12_clear_28 : Nat → Nat → Int32 → Int32 → eMem → Option (Int32 × eMem)
  | 0, _, _, _, _ => none
  | n + 1, x0, x1, x2, σ =>
    if (3 : Int32) ≤ x2 then
      some (x1, σ)
    else
      if (KH x0).1 = 10 then
        if (KH (RH x0 33)).1 = 11 ∧ eix x2 (KH (RH x0 33)).2 = true then eLet ((eup σ.1 (RH x0 33) x2.toNatClampNeg (0 : Int32), σ.2) : eMem) (fun σ1 =>
          f_X12_clear_28 n x0 x1 (x2 + (1 : Int32)) σ1
          ) else none
      else none
set_option maxHeartbeats 4000000 in
set_option maxRecDepth 20000 in
theorem s_X12_clear_28 : ∀ (n : Nat) (x0 : Nat) (x1 : Int32) (x2 : Int32) (σ : eMem), Snd false none 0 m_X12_clear (f_X12_clear_28 n x0 x1 x2 σ) (cN iI) (28, [(0, .inr (.inr (x0))), (1, .inl (x1)), (2, .inl (x2))], [], hp σ, 0, 0) := by
  intro n
  induction n with
  | zero => exact fun _ _ _ _ => T_none
  | succ n ih =>
    intro x0 x1 x2 σ
    unfold f_X12_clear_28
    refine T_go (S' := (30, [(0, .inr (.inr (x0))), (1, .inl (x1)), (2, .inl (x2))], [.inl ((3 : Int32)), .inl (x2)], hp σ, 0, 0)) 2 rfl ?_
    refine T_icmp_ge 46 rfl rfl (fun _ => ?_) (fun _ => ?_)
    · refine T_go (S' := (47, [(0, .inr (.inr (x0))), (1, .inl (x1)), (2, .inl (x2))], [.inl (x1)], hp σ, 0, 0)) 1 rfl ?_
      exact T_ret rfl
    · refine T_go (S' := (34, [(0, .inr (.inr (x0))), (1, .inl (x1)), (2, .inl (x2))], [.inr (.inr (x0))], hp σ, 0, 0)) 1 rfl ?_
      refine T_getR rfl (fun _ => ?_)
      refine T_go (S' := (39, [(0, .inr (.inr (x0))), (1, .inl (x1)), (2, .inl (x2))], [.inl ((0 : Int32)), .inl (x2), .inr (.inr ((RH x0 33)))], hp σ, 0, 0)) 2 rfl ?_
      refine T_iast rfl (fun _ => ?_)
      refine T_let (Sf := fun σ1 => (40, [(0, .inr (.inr (x0))), (1, .inl (x1)), (2, .inl (x2))], [], hp σ1, 0, 0)) (fun σ1 => ?_)
      refine T_go (S' := (28, [(2, .inl ((x2 + (1 : Int32)))), (0, .inr (.inr (x0))), (1, .inl (x1))], [], hp σ1, 0, 0)) 2 rfl ?_
      refine T_loc (ls' := [(0, .inr (.inr (x0))), (1, .inl (x1)), (2, .inl ((x2 + (1 : Int32))))]) [1, 2, 0] rfl ?_
      exact ih x0 x1 (x2 + (1 : Int32)) σ1
def f_X12_clear (x0 : Nat) (σ : eMem) : Option (Int32 × eMem) :=
  if (KH x0).1 = 10 then eLet ((eup σ.1 x0 32 (0 : Int32), σ.2) : eMem) (fun σ1 =>
    if (KH x0).1 = 10 then
      if (KH (RH x0 33)).1 = 11 ∧ eix (0 : Int32) (KH (RH x0 33)).2 = true then
        if (KH x0).1 = 10 then
          if (KH (RH x0 33)).1 = 11 ∧ eix (1 : Int32) (KH (RH x0 33)).2 = true then
            if (KH x0).1 = 10 then
              if (KH (RH x0 33)).1 = 11 ∧ eix (2 : Int32) (KH (RH x0 33)).2 = true then
                eLet ((((σ1.1 (RH x0 33) (0 : Int32).toNatClampNeg) + (σ1.1 (RH x0 33) (1 : Int32).toNatClampNeg)) + (σ1.1 (RH x0 33) (2 : Int32).toNatClampNeg)) : Int32) (fun v2 =>
                  f_X12_clear_28 1000000 x0 v2 (0 : Int32) σ1
                  )
              else none
            else none
          else none
        else none
      else none
    else none
    ) else none
set_option maxHeartbeats 4000000 in
set_option maxRecDepth 20000 in
theorem s_X12_clear (x0 : Nat) (σ : eMem) : ∀ r, f_X12_clear x0 σ = some r → Ew false 1 187 [.inr (.inr (x0))] (hp σ) (cN iI r) := by
  refine T_meth (md := m_X12_clear) (d0 := 0) (cv := (cN iI)) rfl (lb rfl) (lb rfl) ?_
  unfold f_X12_clear
  show Snd false none _ _ _ _ (0, [(0, .inr (.inr (x0)))], [], hp σ, 0, 0)
  refine T_go (S' := (2, [(0, .inr (.inr (x0)))], [.inl ((0 : Int32)), .inr (.inr (x0))], hp σ, 0, 0)) 2 rfl ?_
  refine T_putI rfl (fun _ => ?_)
  refine T_let (Sf := fun σ1 => (5, [(0, .inr (.inr (x0)))], [], hp σ1, 0, 0)) (fun σ1 => ?_)
  refine T_go (S' := (6, [(0, .inr (.inr (x0)))], [.inr (.inr (x0))], hp σ1, 0, 0)) 1 rfl ?_
  refine T_getR rfl (fun _ => ?_)
  refine T_go (S' := (10, [(0, .inr (.inr (x0)))], [.inl ((0 : Int32)), .inr (.inr ((RH x0 33)))], hp σ1, 0, 0)) 1 rfl ?_
  refine T_iald rfl (fun _ => ?_)
  refine T_go (S' := (12, [(0, .inr (.inr (x0)))], [.inr (.inr (x0)), .inl ((σ1.1 (RH x0 33) (0 : Int32).toNatClampNeg))], hp σ1, 0, 0)) 1 rfl ?_
  refine T_getR rfl (fun _ => ?_)
  refine T_go (S' := (16, [(0, .inr (.inr (x0)))], [.inl ((1 : Int32)), .inr (.inr ((RH x0 33))), .inl ((σ1.1 (RH x0 33) (0 : Int32).toNatClampNeg))], hp σ1, 0, 0)) 1 rfl ?_
  refine T_iald rfl (fun _ => ?_)
  refine T_go (S' := (19, [(0, .inr (.inr (x0)))], [.inr (.inr (x0)), .inl (((σ1.1 (RH x0 33) (0 : Int32).toNatClampNeg) + (σ1.1 (RH x0 33) (1 : Int32).toNatClampNeg)))], hp σ1, 0, 0)) 2 rfl ?_
  refine T_getR rfl (fun _ => ?_)
  refine T_go (S' := (23, [(0, .inr (.inr (x0)))], [.inl ((2 : Int32)), .inr (.inr ((RH x0 33))), .inl (((σ1.1 (RH x0 33) (0 : Int32).toNatClampNeg) + (σ1.1 (RH x0 33) (1 : Int32).toNatClampNeg)))], hp σ1, 0, 0)) 1 rfl ?_
  refine T_iald rfl (fun _ => ?_)
  refine T_go (S' := (26, [(1, .inl ((((σ1.1 (RH x0 33) (0 : Int32).toNatClampNeg) + (σ1.1 (RH x0 33) (1 : Int32).toNatClampNeg)) + (σ1.1 (RH x0 33) (2 : Int32).toNatClampNeg)))), (0, .inr (.inr (x0)))], [], hp σ1, 0, 0)) 2 rfl ?_
  refine T_let (Sf := fun v2 => (26, [(1, .inl (v2)), (0, .inr (.inr (x0)))], [], hp σ1, 0, 0)) (fun v2 => ?_)
  refine T_go (S' := (28, [(2, .inl ((0 : Int32))), (1, .inl (v2)), (0, .inr (.inr (x0)))], [], hp σ1, 0, 0)) 2 rfl ?_
  refine T_loc (ls' := [(0, .inr (.inr (x0))), (1, .inl (v2)), (2, .inl ((0 : Int32)))]) [2, 1, 0] rfl ?_
  exact s_X12_clear_28 1000000 x0 v2 (0 : Int32) σ1
def f_X12_step_75 (x0 : Nat) (σ : eMem) : Option (Int32 × eMem) :=
  if (KH x0).1 = 10 then
    Option.bind (f_X12_fails x0 (2 : Int32) σ) (fun r1 =>
      some (r1.1, r1.2)
      )
  else none
set_option maxHeartbeats 4000000 in
set_option maxRecDepth 20000 in
theorem s_X12_step_75 (x0 : Nat) (σ : eMem) : Snd false none 1 m_X12_step (f_X12_step_75 x0 σ) (cN iI) (75, [(0, .inr (.inr (x0)))], [], hp σ, 0, 0) := by
  unfold f_X12_step_75
  refine T_go (S' := (77, [(0, .inr (.inr (x0)))], [.inl ((2 : Int32)), .inr (.inr (x0))], hp σ, 0, 0)) 2 rfl ?_
  refine T_cv (i := iI) (as := [.inr (.inr (x0)), .inl ((2 : Int32))]) (rest := []) (st := [.inl ((2 : Int32)), .inr (.inr (x0))]) rfl rfl rfl ⟨lb rfl, lb rfl, lb rfl, lb rfl⟩ (fun _ h => Ew_le (lb rfl) (s_X12_fails x0 (2 : Int32) σ _ h)) (fun _ r1 => ?_)
  show Snd false none _ _ _ (cN iI) (80, [(0, .inr (.inr (x0)))], [.inl (r1.1)], hp r1.2, 0, 0)
  exact T_ret rfl
def f_X12_step_116 (x0 : Nat) (σ : eMem) : Option (Int32 × eMem) :=
  if (KH x0).1 = 10 then
    Option.bind (f_X12_fails x0 (3 : Int32) σ) (fun r1 =>
      some (r1.1, r1.2)
      )
  else none
set_option maxHeartbeats 4000000 in
set_option maxRecDepth 20000 in
theorem s_X12_step_116 (x0 : Nat) (σ : eMem) : Snd false none 1 m_X12_step (f_X12_step_116 x0 σ) (cN iI) (116, [(0, .inr (.inr (x0)))], [], hp σ, 0, 0) := by
  unfold f_X12_step_116
  refine T_go (S' := (118, [(0, .inr (.inr (x0)))], [.inl ((3 : Int32)), .inr (.inr (x0))], hp σ, 0, 0)) 2 rfl ?_
  refine T_cv (i := iI) (as := [.inr (.inr (x0)), .inl ((3 : Int32))]) (rest := []) (st := [.inl ((3 : Int32)), .inr (.inr (x0))]) rfl rfl rfl ⟨lb rfl, lb rfl, lb rfl, lb rfl⟩ (fun _ h => Ew_le (lb rfl) (s_X12_fails x0 (3 : Int32) σ _ h)) (fun _ r1 => ?_)
  show Snd false none _ _ _ (cN iI) (121, [(0, .inr (.inr (x0)))], [.inl (r1.1)], hp r1.2, 0, 0)
  exact T_ret rfl
def f_X12_step_158 (x0 : Nat) (x1 : Int32) (x4 : Int32) (x6 : Int32) (s0 : Nat) (s1 : Int32) (s2 : Int32) (σ : eMem) : Option (Int32 × eMem) :=
  if (KH s0).1 = 11 ∧ eix s1 (KH s0).2 = true then eLet ((eup σ.1 s0 s1.toNatClampNeg s2, σ.2) : eMem) (fun σ1 =>
    if (KH x0).1 = 10 then
      if (KH (RH x0 36)).1 = 11 ∧ eix x6 (KH (RH x0 36)).2 = true then eLet ((eup σ1.1 (RH x0 36) x6.toNatClampNeg x4, σ1.2) : eMem) (fun σ2 =>
        if (KH x0).1 = 10 then
          if (KH (RH x0 33)).1 = 11 ∧ eix x1 (KH (RH x0 33)).2 = true then
            if (KH (RH x0 33)).1 = 11 ∧ eix x1 (KH (RH x0 33)).2 = true then eLet ((eup σ2.1 (RH x0 33) x1.toNatClampNeg ((σ2.1 (RH x0 33) x1.toNatClampNeg) + (1 : Int32)), σ2.2) : eMem) (fun σ3 =>
              if (KH x0).1 = 10 then
                if (KH (RH x0 33)).1 = 11 ∧ eix x1 (KH (RH x0 33)).2 = true then
                  some ((σ3.1 (RH x0 33) x1.toNatClampNeg), σ3)
                else none
              else none
              ) else none
          else none
        else none
        ) else none
    else none
    ) else none
set_option maxHeartbeats 4000000 in
set_option maxRecDepth 20000 in
theorem s_X12_step_158 (x0 : Nat) (x1 : Int32) (x4 : Int32) (x6 : Int32) (s0 : Nat) (s1 : Int32) (s2 : Int32) (σ : eMem) : Snd false none 1 m_X12_step (f_X12_step_158 x0 x1 x4 x6 s0 s1 s2 σ) (cN iI) (158, [(0, .inr (.inr (x0))), (1, .inl (x1)), (4, .inl (x4)), (6, .inl (x6))], [.inl (s2), .inl (s1), .inr (.inr (s0))], hp σ, 0, 0) := by
  unfold f_X12_step_158
  refine T_iast rfl (fun _ => ?_)
  refine T_let (Sf := fun σ1 => (159, [(0, .inr (.inr (x0))), (1, .inl (x1)), (4, .inl (x4)), (6, .inl (x6))], [], hp σ1, 0, 0)) (fun σ1 => ?_)
  refine T_go (S' := (160, [(0, .inr (.inr (x0))), (1, .inl (x1)), (4, .inl (x4)), (6, .inl (x6))], [.inr (.inr (x0))], hp σ1, 0, 0)) 1 rfl ?_
  refine T_getR rfl (fun _ => ?_)
  refine T_go (S' := (167, [(0, .inr (.inr (x0))), (1, .inl (x1)), (4, .inl (x4)), (6, .inl (x6))], [.inl (x4), .inl (x6), .inr (.inr ((RH x0 36)))], hp σ1, 0, 0)) 2 rfl ?_
  refine T_iast rfl (fun _ => ?_)
  refine T_let (Sf := fun σ2 => (168, [(0, .inr (.inr (x0))), (1, .inl (x1)), (4, .inl (x4)), (6, .inl (x6))], [], hp σ2, 0, 0)) (fun σ2 => ?_)
  refine T_go (S' := (169, [(0, .inr (.inr (x0))), (1, .inl (x1)), (4, .inl (x4)), (6, .inl (x6))], [.inr (.inr (x0))], hp σ2, 0, 0)) 1 rfl ?_
  refine T_getR rfl (fun _ => ?_)
  refine T_go (S' := (174, [(0, .inr (.inr (x0))), (1, .inl (x1)), (4, .inl (x4)), (6, .inl (x6))], [.inl (x1), .inr (.inr ((RH x0 33))), .inl (x1), .inr (.inr ((RH x0 33)))], hp σ2, 0, 0)) 2 rfl ?_
  refine T_iald rfl (fun _ => ?_)
  refine T_go (S' := (177, [(0, .inr (.inr (x0))), (1, .inl (x1)), (4, .inl (x4)), (6, .inl (x6))], [.inl (((σ2.1 (RH x0 33) x1.toNatClampNeg) + (1 : Int32))), .inl (x1), .inr (.inr ((RH x0 33)))], hp σ2, 0, 0)) 2 rfl ?_
  refine T_iast rfl (fun _ => ?_)
  refine T_let (Sf := fun σ3 => (178, [(0, .inr (.inr (x0))), (1, .inl (x1)), (4, .inl (x4)), (6, .inl (x6))], [], hp σ3, 0, 0)) (fun σ3 => ?_)
  refine T_go (S' := (179, [(0, .inr (.inr (x0))), (1, .inl (x1)), (4, .inl (x4)), (6, .inl (x6))], [.inr (.inr (x0))], hp σ3, 0, 0)) 1 rfl ?_
  refine T_getR rfl (fun _ => ?_)
  refine T_go (S' := (183, [(0, .inr (.inr (x0))), (1, .inl (x1)), (4, .inl (x4)), (6, .inl (x6))], [.inl (x1), .inr (.inr ((RH x0 33)))], hp σ3, 0, 0)) 1 rfl ?_
  refine T_iald rfl (fun _ => ?_)
  exact T_ret rfl
def f_X12_step_81 (x0 : Nat) (x1 : Int32) (x2 : Int32) (x3 : Int32) (x4 : Int32) (σ : eMem) : Option (Int32 × eMem) :=
  if (KH x0).1 = 10 then
    if (KH (RH x0 33)).1 = 11 ∧ eix x1 (KH (RH x0 33)).2 = true then
      if (σ.1 (RH x0 33) x1.toNatClampNeg) = (4 : Int32) then
        f_X12_step_116 x0 σ
      else
        if (KH x0).1 = 10 then
          if (KH (RH x0 33)).1 = 11 ∧ eix (0 : Int32) (KH (RH x0 33)).2 = true then
            if (KH x0).1 = 10 then
              if (KH (RH x0 33)).1 = 11 ∧ eix (1 : Int32) (KH (RH x0 33)).2 = true then
                if (KH x0).1 = 10 then
                  if (KH (RH x0 33)).1 = 11 ∧ eix (2 : Int32) (KH (RH x0 33)).2 = true then
                    if ¬ (((σ.1 (RH x0 33) (0 : Int32).toNatClampNeg) + (σ.1 (RH x0 33) (1 : Int32).toNatClampNeg)) + (σ.1 (RH x0 33) (2 : Int32).toNatClampNeg)) = (6 : Int32) then
                      if (KH x0).1 = 10 then
                        if (KH (RH x0 33)).1 = 11 ∧ eix x1 (KH (RH x0 33)).2 = true then
                          eLet ((((4 : Int32) * x1) + (σ.1 (RH x0 33) x1.toNatClampNeg)) : Int32) (fun v1 =>
                            if (KH x0).1 = 10 then
                              if (KH (RH x0 34)).1 = 11 ∧ eix v1 (KH (RH x0 34)).2 = true then eLet ((eup σ.1 (RH x0 34) v1.toNatClampNeg x2, σ.2) : eMem) (fun σ2 =>
                                if (KH x0).1 = 10 then
                                  if ¬ x2 = (2 : Int32) then
                                    f_X12_step_158 x0 x1 x4 v1 (RH x0 35) v1 x3 σ2
                                  else
                                    f_X12_step_158 x0 x1 x4 v1 (RH x0 35) v1 (0 : Int32) σ2
                                else none
                                ) else none
                            else none
                            )
                        else none
                      else none
                    else
                      f_X12_step_116 x0 σ
                  else none
                else none
              else none
            else none
          else none
        else none
    else none
  else none
set_option maxHeartbeats 4000000 in
set_option maxRecDepth 20000 in
theorem s_X12_step_81 (x0 : Nat) (x1 : Int32) (x2 : Int32) (x3 : Int32) (x4 : Int32) (σ : eMem) : Snd false none 1 m_X12_step (f_X12_step_81 x0 x1 x2 x3 x4 σ) (cN iI) (81, [(0, .inr (.inr (x0))), (1, .inl (x1)), (2, .inl (x2)), (3, .inl (x3)), (4, .inl (x4))], [], hp σ, 0, 0) := by
  unfold f_X12_step_81
  refine T_go (S' := (82, [(0, .inr (.inr (x0))), (1, .inl (x1)), (2, .inl (x2)), (3, .inl (x3)), (4, .inl (x4))], [.inr (.inr (x0))], hp σ, 0, 0)) 1 rfl ?_
  refine T_getR rfl (fun _ => ?_)
  refine T_go (S' := (86, [(0, .inr (.inr (x0))), (1, .inl (x1)), (2, .inl (x2)), (3, .inl (x3)), (4, .inl (x4))], [.inl (x1), .inr (.inr ((RH x0 33)))], hp σ, 0, 0)) 1 rfl ?_
  refine T_iald rfl (fun _ => ?_)
  refine T_go (S' := (88, [(0, .inr (.inr (x0))), (1, .inl (x1)), (2, .inl (x2)), (3, .inl (x3)), (4, .inl (x4))], [.inl ((4 : Int32)), .inl ((σ.1 (RH x0 33) x1.toNatClampNeg))], hp σ, 0, 0)) 1 rfl ?_
  refine T_icmp_eq 116 rfl rfl (fun _ => ?_) (fun _ => ?_)
  · refine T_loc (ls' := [(0, .inr (.inr (x0)))]) [0] rfl ?_
    exact s_X12_step_116 x0 σ
  · refine T_go (S' := (92, [(0, .inr (.inr (x0))), (1, .inl (x1)), (2, .inl (x2)), (3, .inl (x3)), (4, .inl (x4))], [.inr (.inr (x0))], hp σ, 0, 0)) 1 rfl ?_
    refine T_getR rfl (fun _ => ?_)
    refine T_go (S' := (96, [(0, .inr (.inr (x0))), (1, .inl (x1)), (2, .inl (x2)), (3, .inl (x3)), (4, .inl (x4))], [.inl ((0 : Int32)), .inr (.inr ((RH x0 33)))], hp σ, 0, 0)) 1 rfl ?_
    refine T_iald rfl (fun _ => ?_)
    refine T_go (S' := (98, [(0, .inr (.inr (x0))), (1, .inl (x1)), (2, .inl (x2)), (3, .inl (x3)), (4, .inl (x4))], [.inr (.inr (x0)), .inl ((σ.1 (RH x0 33) (0 : Int32).toNatClampNeg))], hp σ, 0, 0)) 1 rfl ?_
    refine T_getR rfl (fun _ => ?_)
    refine T_go (S' := (102, [(0, .inr (.inr (x0))), (1, .inl (x1)), (2, .inl (x2)), (3, .inl (x3)), (4, .inl (x4))], [.inl ((1 : Int32)), .inr (.inr ((RH x0 33))), .inl ((σ.1 (RH x0 33) (0 : Int32).toNatClampNeg))], hp σ, 0, 0)) 1 rfl ?_
    refine T_iald rfl (fun _ => ?_)
    refine T_go (S' := (105, [(0, .inr (.inr (x0))), (1, .inl (x1)), (2, .inl (x2)), (3, .inl (x3)), (4, .inl (x4))], [.inr (.inr (x0)), .inl (((σ.1 (RH x0 33) (0 : Int32).toNatClampNeg) + (σ.1 (RH x0 33) (1 : Int32).toNatClampNeg)))], hp σ, 0, 0)) 2 rfl ?_
    refine T_getR rfl (fun _ => ?_)
    refine T_go (S' := (109, [(0, .inr (.inr (x0))), (1, .inl (x1)), (2, .inl (x2)), (3, .inl (x3)), (4, .inl (x4))], [.inl ((2 : Int32)), .inr (.inr ((RH x0 33))), .inl (((σ.1 (RH x0 33) (0 : Int32).toNatClampNeg) + (σ.1 (RH x0 33) (1 : Int32).toNatClampNeg)))], hp σ, 0, 0)) 1 rfl ?_
    refine T_iald rfl (fun _ => ?_)
    refine T_go (S' := (113, [(0, .inr (.inr (x0))), (1, .inl (x1)), (2, .inl (x2)), (3, .inl (x3)), (4, .inl (x4))], [.inl ((6 : Int32)), .inl ((((σ.1 (RH x0 33) (0 : Int32).toNatClampNeg) + (σ.1 (RH x0 33) (1 : Int32).toNatClampNeg)) + (σ.1 (RH x0 33) (2 : Int32).toNatClampNeg)))], hp σ, 0, 0)) 2 rfl ?_
    refine T_icmp_ne 122 rfl rfl (fun _ => ?_) (fun _ => ?_)
    · refine T_go (S' := (126, [(0, .inr (.inr (x0))), (1, .inl (x1)), (2, .inl (x2)), (3, .inl (x3)), (4, .inl (x4))], [.inr (.inr (x0)), .inl (((4 : Int32) * x1))], hp σ, 0, 0)) 4 rfl ?_
      refine T_getR rfl (fun _ => ?_)
      refine T_go (S' := (130, [(0, .inr (.inr (x0))), (1, .inl (x1)), (2, .inl (x2)), (3, .inl (x3)), (4, .inl (x4))], [.inl (x1), .inr (.inr ((RH x0 33))), .inl (((4 : Int32) * x1))], hp σ, 0, 0)) 1 rfl ?_
      refine T_iald rfl (fun _ => ?_)
      refine T_go (S' := (134, [(6, .inl ((((4 : Int32) * x1) + (σ.1 (RH x0 33) x1.toNatClampNeg)))), (0, .inr (.inr (x0))), (1, .inl (x1)), (2, .inl (x2)), (3, .inl (x3)), (4, .inl (x4))], [], hp σ, 0, 0)) 2 rfl ?_
      refine T_let (Sf := fun v1 => (134, [(6, .inl (v1)), (0, .inr (.inr (x0))), (1, .inl (x1)), (2, .inl (x2)), (3, .inl (x3)), (4, .inl (x4))], [], hp σ, 0, 0)) (fun v1 => ?_)
      refine T_go (S' := (135, [(6, .inl (v1)), (0, .inr (.inr (x0))), (1, .inl (x1)), (2, .inl (x2)), (3, .inl (x3)), (4, .inl (x4))], [.inr (.inr (x0))], hp σ, 0, 0)) 1 rfl ?_
      refine T_getR rfl (fun _ => ?_)
      refine T_go (S' := (141, [(6, .inl (v1)), (0, .inr (.inr (x0))), (1, .inl (x1)), (2, .inl (x2)), (3, .inl (x3)), (4, .inl (x4))], [.inl (x2), .inl (v1), .inr (.inr ((RH x0 34)))], hp σ, 0, 0)) 2 rfl ?_
      refine T_iast rfl (fun _ => ?_)
      refine T_let (Sf := fun σ2 => (142, [(6, .inl (v1)), (0, .inr (.inr (x0))), (1, .inl (x1)), (2, .inl (x2)), (3, .inl (x3)), (4, .inl (x4))], [], hp σ2, 0, 0)) (fun σ2 => ?_)
      refine T_go (S' := (143, [(6, .inl (v1)), (0, .inr (.inr (x0))), (1, .inl (x1)), (2, .inl (x2)), (3, .inl (x3)), (4, .inl (x4))], [.inr (.inr (x0))], hp σ2, 0, 0)) 1 rfl ?_
      refine T_getR rfl (fun _ => ?_)
      refine T_go (S' := (150, [(6, .inl (v1)), (0, .inr (.inr (x0))), (1, .inl (x1)), (2, .inl (x2)), (3, .inl (x3)), (4, .inl (x4))], [.inl ((2 : Int32)), .inl (x2), .inl (v1), .inr (.inr ((RH x0 35)))], hp σ2, 0, 0)) 3 rfl ?_
      refine T_icmp_ne 157 rfl rfl (fun _ => ?_) (fun _ => ?_)
      · refine T_go (S' := (158, [(6, .inl (v1)), (0, .inr (.inr (x0))), (1, .inl (x1)), (2, .inl (x2)), (3, .inl (x3)), (4, .inl (x4))], [.inl (x3), .inl (v1), .inr (.inr ((RH x0 35)))], hp σ2, 0, 0)) 1 rfl ?_
        refine T_loc (ls' := [(0, .inr (.inr (x0))), (1, .inl (x1)), (4, .inl (x4)), (6, .inl (v1))]) [1, 2, 5, 0] rfl ?_
        exact s_X12_step_158 x0 x1 x4 v1 (RH x0 35) v1 x3 σ2
      · refine T_go (S' := (158, [(6, .inl (v1)), (0, .inr (.inr (x0))), (1, .inl (x1)), (2, .inl (x2)), (3, .inl (x3)), (4, .inl (x4))], [.inl ((0 : Int32)), .inl (v1), .inr (.inr ((RH x0 35)))], hp σ2, 0, 0)) 2 rfl ?_
        refine T_loc (ls' := [(0, .inr (.inr (x0))), (1, .inl (x1)), (4, .inl (x4)), (6, .inl (v1))]) [1, 2, 5, 0] rfl ?_
        exact s_X12_step_158 x0 x1 x4 v1 (RH x0 35) v1 (0 : Int32) σ2
    · refine T_loc (ls' := [(0, .inr (.inr (x0)))]) [0] rfl ?_
      exact s_X12_step_116 x0 σ
def f_X12_step_41 (x0 : Nat) (x1 : Int32) (x2 : Int32) (x3 : Int32) (x4 : Int32) (s0 : Nat) (s1 : Int32) (σ : eMem) : Option (Int32 × eMem) :=
  if (KH s0).1 = 10 then
    Option.bind (f_X12_asks s0 s1 σ) (fun r1 =>
      if ¬ r1.1 = (0 : Int32) then
        if x2 < (0 : Int32) then
          f_X12_step_75 x0 r1.2
        else
          if (3 : Int32) < x2 then
            f_X12_step_75 x0 r1.2
          else
            if ¬ x2 = (0 : Int32) then
              f_X12_step_81 x0 x1 x2 x3 x4 r1.2
            else
              if x4 < (1 : Int32) then
                f_X12_step_75 x0 r1.2
              else
                if x4 ≤ (9 : Int32) then
                  f_X12_step_81 x0 x1 x2 x3 x4 r1.2
                else
                  f_X12_step_75 x0 r1.2
      else
        some ((0 : Int32), r1.2)
      )
  else none
set_option maxHeartbeats 4000000 in
set_option maxRecDepth 20000 in
theorem s_X12_step_41 (x0 : Nat) (x1 : Int32) (x2 : Int32) (x3 : Int32) (x4 : Int32) (s0 : Nat) (s1 : Int32) (σ : eMem) : Snd false none 1 m_X12_step (f_X12_step_41 x0 x1 x2 x3 x4 s0 s1 σ) (cN iI) (41, [(0, .inr (.inr (x0))), (1, .inl (x1)), (2, .inl (x2)), (3, .inl (x3)), (4, .inl (x4))], [.inl (s1), .inr (.inr (s0))], hp σ, 0, 0) := by
  unfold f_X12_step_41
  refine T_cv (i := iI) (as := [.inr (.inr (s0)), .inl (s1)]) (rest := []) (st := [.inl (s1), .inr (.inr (s0))]) rfl rfl rfl ⟨lb rfl, lb rfl, lb rfl, lb rfl⟩ (fun _ h => Ew_le (lb rfl) (s_X12_asks s0 s1 σ _ h)) (fun _ r1 => ?_)
  show Snd false none _ _ _ (cN iI) (44, [(0, .inr (.inr (x0))), (1, .inl (x1)), (2, .inl (x2)), (3, .inl (x3)), (4, .inl (x4))], [.inl (r1.1)], hp r1.2, 0, 0)
  refine T_if_ne 49 rfl rfl (fun _ => ?_) (fun _ => ?_)
  · refine T_go (S' := (50, [(0, .inr (.inr (x0))), (1, .inl (x1)), (2, .inl (x2)), (3, .inl (x3)), (4, .inl (x4))], [.inl (x2)], hp r1.2, 0, 0)) 1 rfl ?_
    refine T_if_lt 75 rfl rfl (fun _ => ?_) (fun _ => ?_)
    · refine T_loc (ls' := [(0, .inr (.inr (x0)))]) [0] rfl ?_
      exact s_X12_step_75 x0 r1.2
    · refine T_go (S' := (55, [(0, .inr (.inr (x0))), (1, .inl (x1)), (2, .inl (x2)), (3, .inl (x3)), (4, .inl (x4))], [.inl ((3 : Int32)), .inl (x2)], hp r1.2, 0, 0)) 2 rfl ?_
      refine T_icmp_gt 75 rfl rfl (fun _ => ?_) (fun _ => ?_)
      · refine T_loc (ls' := [(0, .inr (.inr (x0)))]) [0] rfl ?_
        exact s_X12_step_75 x0 r1.2
      · refine T_go (S' := (59, [(0, .inr (.inr (x0))), (1, .inl (x1)), (2, .inl (x2)), (3, .inl (x3)), (4, .inl (x4))], [.inl (x2)], hp r1.2, 0, 0)) 1 rfl ?_
        refine T_if_ne 81 rfl rfl (fun _ => ?_) (fun _ => ?_)
        · refine T_loc (ls' := [(0, .inr (.inr (x0))), (1, .inl (x1)), (2, .inl (x2)), (3, .inl (x3)), (4, .inl (x4))]) [0, 1, 2, 3, 4] rfl ?_
          exact s_X12_step_81 x0 x1 x2 x3 x4 r1.2
        · refine T_go (S' := (65, [(0, .inr (.inr (x0))), (1, .inl (x1)), (2, .inl (x2)), (3, .inl (x3)), (4, .inl (x4))], [.inl ((1 : Int32)), .inl (x4)], hp r1.2, 0, 0)) 2 rfl ?_
          refine T_icmp_lt 75 rfl rfl (fun _ => ?_) (fun _ => ?_)
          · refine T_loc (ls' := [(0, .inr (.inr (x0)))]) [0] rfl ?_
            exact s_X12_step_75 x0 r1.2
          · refine T_go (S' := (72, [(0, .inr (.inr (x0))), (1, .inl (x1)), (2, .inl (x2)), (3, .inl (x3)), (4, .inl (x4))], [.inl ((9 : Int32)), .inl (x4)], hp r1.2, 0, 0)) 2 rfl ?_
            refine T_icmp_le 81 rfl rfl (fun _ => ?_) (fun _ => ?_)
            · refine T_loc (ls' := [(0, .inr (.inr (x0))), (1, .inl (x1)), (2, .inl (x2)), (3, .inl (x3)), (4, .inl (x4))]) [0, 1, 2, 3, 4] rfl ?_
              exact s_X12_step_81 x0 x1 x2 x3 x4 r1.2
            · refine T_loc (ls' := [(0, .inr (.inr (x0)))]) [0] rfl ?_
              exact s_X12_step_75 x0 r1.2
  · refine T_go (S' := (48, [(0, .inr (.inr (x0))), (1, .inl (x1)), (2, .inl (x2)), (3, .inl (x3)), (4, .inl (x4))], [.inl ((0 : Int32))], hp r1.2, 0, 0)) 1 rfl ?_
    exact T_ret rfl
def f_X12_step_40 (x0 : Nat) (x1 : Int32) (x2 : Int32) (x3 : Int32) (x4 : Int32) (s0 : Nat) (σ : eMem) : Option (Int32 × eMem) :=
  f_X12_step_41 x0 x1 x2 x3 x4 s0 (0 : Int32) σ
set_option maxHeartbeats 4000000 in
set_option maxRecDepth 20000 in
theorem s_X12_step_40 (x0 : Nat) (x1 : Int32) (x2 : Int32) (x3 : Int32) (x4 : Int32) (s0 : Nat) (σ : eMem) : Snd false none 1 m_X12_step (f_X12_step_40 x0 x1 x2 x3 x4 s0 σ) (cN iI) (40, [(0, .inr (.inr (x0))), (1, .inl (x1)), (2, .inl (x2)), (3, .inl (x3)), (4, .inl (x4))], [.inr (.inr (s0))], hp σ, 0, 0) := by
  unfold f_X12_step_40
  refine T_go (S' := (41, [(0, .inr (.inr (x0))), (1, .inl (x1)), (2, .inl (x2)), (3, .inl (x3)), (4, .inl (x4))], [.inl ((0 : Int32)), .inr (.inr (s0))], hp σ, 0, 0)) 1 rfl ?_
  refine T_loc (ls' := [(0, .inr (.inr (x0))), (1, .inl (x1)), (2, .inl (x2)), (3, .inl (x3)), (4, .inl (x4))]) [0, 1, 2, 3, 4] rfl ?_
  exact s_X12_step_41 x0 x1 x2 x3 x4 s0 (0 : Int32) σ
def f_X12_step_19 (x0 : Nat) (x1 : Int32) (x2 : Int32) (x3 : Int32) (x4 : Int32) (s0 : Int32) (σ : eMem) : Option (Int32 × eMem) :=
  if x1 < (0 : Int32) then
    f_X12_step_40 x0 x1 x2 x3 x4 x0 σ
  else
    if (2 : Int32) < x1 then
      f_X12_step_40 x0 x1 x2 x3 x4 x0 σ
    else
      if s0 = (0 : Int32) then
        f_X12_step_40 x0 x1 x2 x3 x4 x0 σ
      else
        f_X12_step_41 x0 x1 x2 x3 x4 x0 (1 : Int32) σ
set_option maxHeartbeats 4000000 in
set_option maxRecDepth 20000 in
theorem s_X12_step_19 (x0 : Nat) (x1 : Int32) (x2 : Int32) (x3 : Int32) (x4 : Int32) (s0 : Int32) (σ : eMem) : Snd false none 1 m_X12_step (f_X12_step_19 x0 x1 x2 x3 x4 s0 σ) (cN iI) (19, [(0, .inr (.inr (x0))), (1, .inl (x1)), (2, .inl (x2)), (3, .inl (x3)), (4, .inl (x4))], [.inl (s0)], hp σ, 0, 0) := by
  unfold f_X12_step_19
  refine T_go (S' := (23, [(5, .inl (s0)), (0, .inr (.inr (x0))), (1, .inl (x1)), (2, .inl (x2)), (3, .inl (x3)), (4, .inl (x4))], [.inl (x1), .inr (.inr (x0))], hp σ, 0, 0)) 3 rfl ?_
  refine T_if_lt 40 rfl rfl (fun _ => ?_) (fun _ => ?_)
  · refine T_loc (ls' := [(0, .inr (.inr (x0))), (1, .inl (x1)), (2, .inl (x2)), (3, .inl (x3)), (4, .inl (x4))]) [1, 2, 3, 4, 5] rfl ?_
    exact s_X12_step_40 x0 x1 x2 x3 x4 x0 σ
  · refine T_go (S' := (28, [(5, .inl (s0)), (0, .inr (.inr (x0))), (1, .inl (x1)), (2, .inl (x2)), (3, .inl (x3)), (4, .inl (x4))], [.inl ((2 : Int32)), .inl (x1), .inr (.inr (x0))], hp σ, 0, 0)) 2 rfl ?_
    refine T_icmp_gt 40 rfl rfl (fun _ => ?_) (fun _ => ?_)
    · refine T_loc (ls' := [(0, .inr (.inr (x0))), (1, .inl (x1)), (2, .inl (x2)), (3, .inl (x3)), (4, .inl (x4))]) [1, 2, 3, 4, 5] rfl ?_
      exact s_X12_step_40 x0 x1 x2 x3 x4 x0 σ
    · refine T_go (S' := (33, [(5, .inl (s0)), (0, .inr (.inr (x0))), (1, .inl (x1)), (2, .inl (x2)), (3, .inl (x3)), (4, .inl (x4))], [.inl (s0), .inr (.inr (x0))], hp σ, 0, 0)) 1 rfl ?_
      refine T_if_eq 40 rfl rfl (fun _ => ?_) (fun _ => ?_)
      · refine T_loc (ls' := [(0, .inr (.inr (x0))), (1, .inl (x1)), (2, .inl (x2)), (3, .inl (x3)), (4, .inl (x4))]) [1, 2, 3, 4, 5] rfl ?_
        exact s_X12_step_40 x0 x1 x2 x3 x4 x0 σ
      · refine T_go (S' := (41, [(5, .inl (s0)), (0, .inr (.inr (x0))), (1, .inl (x1)), (2, .inl (x2)), (3, .inl (x3)), (4, .inl (x4))], [.inl ((1 : Int32)), .inr (.inr (x0))], hp σ, 0, 0)) 2 rfl ?_
        refine T_loc (ls' := [(0, .inr (.inr (x0))), (1, .inl (x1)), (2, .inl (x2)), (3, .inl (x3)), (4, .inl (x4))]) [1, 2, 3, 4, 5] rfl ?_
        exact s_X12_step_41 x0 x1 x2 x3 x4 x0 (1 : Int32) σ
def f_X12_step_14 (x0 : Nat) (x1 : Int32) (x2 : Int32) (x3 : Int32) (x4 : Int32) (σ : eMem) : Option (Int32 × eMem) :=
  f_X12_step_19 x0 x1 x2 x3 x4 (1 : Int32) σ
set_option maxHeartbeats 4000000 in
set_option maxRecDepth 20000 in
theorem s_X12_step_14 (x0 : Nat) (x1 : Int32) (x2 : Int32) (x3 : Int32) (x4 : Int32) (σ : eMem) : Snd false none 1 m_X12_step (f_X12_step_14 x0 x1 x2 x3 x4 σ) (cN iI) (14, [(0, .inr (.inr (x0))), (1, .inl (x1)), (2, .inl (x2)), (3, .inl (x3)), (4, .inl (x4))], [], hp σ, 0, 0) := by
  unfold f_X12_step_14
  refine T_go (S' := (19, [(0, .inr (.inr (x0))), (1, .inl (x1)), (2, .inl (x2)), (3, .inl (x3)), (4, .inl (x4))], [.inl ((1 : Int32))], hp σ, 0, 0)) 2 rfl ?_
  refine T_loc (ls' := [(0, .inr (.inr (x0))), (1, .inl (x1)), (2, .inl (x2)), (3, .inl (x3)), (4, .inl (x4))]) [0, 1, 2, 3, 4] rfl ?_
  exact s_X12_step_19 x0 x1 x2 x3 x4 (1 : Int32) σ
def f_X12_step_18 (x0 : Nat) (x1 : Int32) (x2 : Int32) (x3 : Int32) (x4 : Int32) (σ : eMem) : Option (Int32 × eMem) :=
  f_X12_step_19 x0 x1 x2 x3 x4 (0 : Int32) σ
set_option maxHeartbeats 4000000 in
set_option maxRecDepth 20000 in
theorem s_X12_step_18 (x0 : Nat) (x1 : Int32) (x2 : Int32) (x3 : Int32) (x4 : Int32) (σ : eMem) : Snd false none 1 m_X12_step (f_X12_step_18 x0 x1 x2 x3 x4 σ) (cN iI) (18, [(0, .inr (.inr (x0))), (1, .inl (x1)), (2, .inl (x2)), (3, .inl (x3)), (4, .inl (x4))], [], hp σ, 0, 0) := by
  unfold f_X12_step_18
  refine T_go (S' := (19, [(0, .inr (.inr (x0))), (1, .inl (x1)), (2, .inl (x2)), (3, .inl (x3)), (4, .inl (x4))], [.inl ((0 : Int32))], hp σ, 0, 0)) 1 rfl ?_
  refine T_loc (ls' := [(0, .inr (.inr (x0))), (1, .inl (x1)), (2, .inl (x2)), (3, .inl (x3)), (4, .inl (x4))]) [0, 1, 2, 3, 4] rfl ?_
  exact s_X12_step_19 x0 x1 x2 x3 x4 (0 : Int32) σ
def f_X12_step (x0 : Nat) (x1 : Int32) (x2 : Int32) (x3 : Int32) (x4 : Int32) (σ : eMem) : Option (Int32 × eMem) :=
  if x2 = (2 : Int32) then
    f_X12_step_14 x0 x1 x2 x3 x4 σ
  else
    if x3 < (0 : Int32) then
      f_X12_step_18 x0 x1 x2 x3 x4 σ
    else
      if (2 : Int32) < x3 then
        f_X12_step_18 x0 x1 x2 x3 x4 σ
      else
        f_X12_step_14 x0 x1 x2 x3 x4 σ
set_option maxHeartbeats 4000000 in
set_option maxRecDepth 20000 in
theorem s_X12_step (x0 : Nat) (x1 : Int32) (x2 : Int32) (x3 : Int32) (x4 : Int32) (σ : eMem) : ∀ r, f_X12_step x0 x1 x2 x3 x4 σ = some r → Ew false 2 188 [.inr (.inr (x0)), .inl (x1), .inl (x2), .inl (x3), .inl (x4)] (hp σ) (cN iI r) := by
  refine T_meth (md := m_X12_step) (d0 := 1) (cv := (cN iI)) rfl (lb rfl) (lb rfl) ?_
  unfold f_X12_step
  show Snd false none _ _ _ _ (0, [(0, .inr (.inr (x0))), (1, .inl (x1)), (2, .inl (x2)), (3, .inl (x3)), (4, .inl (x4))], [], hp σ, 0, 0)
  refine T_go (S' := (2, [(0, .inr (.inr (x0))), (1, .inl (x1)), (2, .inl (x2)), (3, .inl (x3)), (4, .inl (x4))], [.inl ((2 : Int32)), .inl (x2)], hp σ, 0, 0)) 2 rfl ?_
  refine T_icmp_eq 14 rfl rfl (fun _ => ?_) (fun _ => ?_)
  · refine T_loc (ls' := [(0, .inr (.inr (x0))), (1, .inl (x1)), (2, .inl (x2)), (3, .inl (x3)), (4, .inl (x4))]) [0, 1, 2, 3, 4] rfl ?_
    exact s_X12_step_14 x0 x1 x2 x3 x4 σ
  · refine T_go (S' := (6, [(0, .inr (.inr (x0))), (1, .inl (x1)), (2, .inl (x2)), (3, .inl (x3)), (4, .inl (x4))], [.inl (x3)], hp σ, 0, 0)) 1 rfl ?_
    refine T_if_lt 18 rfl rfl (fun _ => ?_) (fun _ => ?_)
    · refine T_loc (ls' := [(0, .inr (.inr (x0))), (1, .inl (x1)), (2, .inl (x2)), (3, .inl (x3)), (4, .inl (x4))]) [0, 1, 2, 3, 4] rfl ?_
      exact s_X12_step_18 x0 x1 x2 x3 x4 σ
    · refine T_go (S' := (11, [(0, .inr (.inr (x0))), (1, .inl (x1)), (2, .inl (x2)), (3, .inl (x3)), (4, .inl (x4))], [.inl ((2 : Int32)), .inl (x3)], hp σ, 0, 0)) 2 rfl ?_
      refine T_icmp_gt 18 rfl rfl (fun _ => ?_) (fun _ => ?_)
      · refine T_loc (ls' := [(0, .inr (.inr (x0))), (1, .inl (x1)), (2, .inl (x2)), (3, .inl (x3)), (4, .inl (x4))]) [0, 1, 2, 3, 4] rfl ?_
        exact s_X12_step_18 x0 x1 x2 x3 x4 σ
      · refine T_loc (ls' := [(0, .inr (.inr (x0))), (1, .inl (x1)), (2, .inl (x2)), (3, .inl (x3)), (4, .inl (x4))]) [0, 1, 2, 3, 4] rfl ?_
        exact s_X12_step_14 x0 x1 x2 x3 x4 σ
def f_X12_part (x0 : Int64) (x2 : Int32) (x3 : Int32) (σ : eMem) : Option (Int32 × eMem) :=
  some (((x0 >>> (x2.toInt64 &&& 63)) &&& (((1 : Int64) <<< (x3.toInt64 &&& 63)) - (1 : Int64))).toInt32, σ)
set_option maxHeartbeats 4000000 in
set_option maxRecDepth 20000 in
theorem s_X12_part (x0 : Int64) (x2 : Int32) (x3 : Int32) (σ : eMem) : ∀ r, f_X12_part x0 x2 x3 σ = some r → Ew false 1 189 [.inr (.inl (x0)), .inl (x2), .inl (x3)] (hp σ) (cN iI r) := by
  refine T_meth (md := m_X12_part) (d0 := 0) (cv := (cN iI)) rfl (lb rfl) (lb rfl) ?_
  unfold f_X12_part
  show Snd false none _ _ _ _ (0, [(0, .inr (.inl (x0))), (2, .inl (x2)), (3, .inl (x3))], [], hp σ, 0, 0)
  refine T_go (S' := (10, [(0, .inr (.inl (x0))), (2, .inl (x2)), (3, .inl (x3))], [.inl (((x0 >>> (x2.toInt64 &&& 63)) &&& (((1 : Int64) <<< (x3.toInt64 &&& 63)) - (1 : Int64))).toInt32)], hp σ, 0, 0)) 10 rfl ?_
  exact T_ret rfl
def f_X12_put (x0 : Int64) (x2 : Int32) (x3 : Int32) (x4 : Int32) (σ : eMem) : Option (Int64 × eMem) :=
  Option.bind (f_X12_part x0 x2 x3 σ) (fun r1 =>
    some ((x0 + ((x4.toInt64 - r1.1.toInt64) <<< (x2.toInt64 &&& 63))), r1.2)
    )
set_option maxHeartbeats 4000000 in
set_option maxRecDepth 20000 in
theorem s_X12_put (x0 : Int64) (x2 : Int32) (x3 : Int32) (x4 : Int32) (σ : eMem) : ∀ r, f_X12_put x0 x2 x3 x4 σ = some r → Ew false 2 190 [.inr (.inl (x0)), .inl (x2), .inl (x3), .inl (x4)] (hp σ) (cN iJ r) := by
  refine T_meth (md := m_X12_put) (d0 := 1) (cv := (cN iJ)) rfl (lb rfl) (lb rfl) ?_
  unfold f_X12_put
  show Snd false none _ _ _ _ (0, [(0, .inr (.inl (x0))), (2, .inl (x2)), (3, .inl (x3)), (4, .inl (x4))], [], hp σ, 0, 0)
  refine T_go (S' := (7, [(0, .inr (.inl (x0))), (2, .inl (x2)), (3, .inl (x3)), (4, .inl (x4))], [.inl (x3), .inl (x2), .inr (.inl (x0)), .inr (.inl (x4.toInt64)), .inr (.inl (x0))], hp σ, 0, 0)) 6 rfl ?_
  refine T_cs (i := iI) (as := [.inr (.inl (x0)), .inl (x2), .inl (x3)]) (rest := [.inr (.inl (x4.toInt64)), .inr (.inl (x0))]) (st := [.inl (x3), .inl (x2), .inr (.inl (x0)), .inr (.inl (x4.toInt64)), .inr (.inl (x0))]) rfl (lb rfl) rfl rfl ⟨lb rfl, lb rfl, lb rfl, lb rfl⟩ (fun _ h => Ew_le (lb rfl) (s_X12_part x0 x2 x3 σ _ h)) (fun r1 => ?_)
  show Snd false none _ _ _ (cN iJ) (10, [(0, .inr (.inl (x0))), (2, .inl (x2)), (3, .inl (x3)), (4, .inl (x4))], [.inl (r1.1), .inr (.inl (x4.toInt64)), .inr (.inl (x0))], hp r1.2, 0, 0)
  refine T_go (S' := (15, [(0, .inr (.inl (x0))), (2, .inl (x2)), (3, .inl (x3)), (4, .inl (x4))], [.inr (.inl ((x0 + ((x4.toInt64 - r1.1.toInt64) <<< (x2.toInt64 &&& 63)))))], hp r1.2, 0, 0)) 5 rfl ?_
  exact T_ret rfl
def f_X12_resultOf_L4 : Nat → (Nat × Int32 × Int32 × Int32 ⊕ (Nat × Int32 × Int32 × Int32 × Int32 ⊕ (Nat × Int32 × Int32 × Int32 × Int32 ⊕ (Nat × Int32 × Int32 × Int32 × Int32 × Int32 ⊕ (Nat × Int32 × Int32 × Int32 × Int32 ⊕ (Nat × Int32 × Int32 × Int32 × Int32 × Int32)))))) → eMem → Option (Int32 × eMem)
  | 0, _, _ => none
  | n + 1, .inl (x0, x1, x2, x3), σ =>
    if (3 : Int32) ≤ x3 then
      some (x2, σ)
    else
      f_X12_resultOf_L4 n (.inr (.inl (x0, x1, x2, x3, (0 : Int32)))) σ
  | n + 1, .inr (.inl (x0, x1, x2, x3, x4)), σ =>
    if (KH x0).1 = 10 then
      if (KH (RH x0 33)).1 = 11 ∧ eix x3 (KH (RH x0 33)).2 = true then
        if (σ.1 (RH x0 33) x3.toNatClampNeg) ≤ x4 then
          f_X12_resultOf_L4 n (.inl (x0, x1, x2, (x3 + (1 : Int32)))) σ
        else
          if (KH x0).1 = 10 then
            if (KH (RH x0 34)).1 = 11 ∧ eix (((4 : Int32) * x3) + x4) (KH (RH x0 34)).2 = true then
              if (σ.1 (RH x0 34) (((4 : Int32) * x3) + x4).toNatClampNeg) = (1 : Int32) then
                f_X12_resultOf_L4 n (.inr (.inr (.inl (x0, x1, x2, x3, x4)))) σ
              else
                if (KH x0).1 = 10 then
                  if (KH (RH x0 34)).1 = 11 ∧ eix (((4 : Int32) * x3) + x4) (KH (RH x0 34)).2 = true then
                    if ¬ (σ.1 (RH x0 34) (((4 : Int32) * x3) + x4).toNatClampNeg) = (3 : Int32) then
                      f_X12_resultOf_L4 n (.inr (.inr (.inr (.inl (x0, x1, x2, x3, x4, (0 : Int32)))))) σ
                    else
                      f_X12_resultOf_L4 n (.inr (.inr (.inl (x0, x1, x2, x3, x4)))) σ
                  else none
                else none
            else none
          else none
      else none
    else none
  | n + 1, .inr (.inr (.inl (x0, x1, x2, x3, x4))), σ =>
    f_X12_resultOf_L4 n (.inr (.inr (.inr (.inl (x0, x1, x2, x3, x4, (1 : Int32)))))) σ
  | n + 1, .inr (.inr (.inr (.inl (x0, x1, x2, x3, x4, s0)))), σ =>
    if s0 = (0 : Int32) then
      f_X12_resultOf_L4 n (.inr (.inr (.inr (.inr (.inl (x0, x1, x3, x4, x2)))))) σ
    else
      if (((4 : Int32) * x3) + x4) ≤ x1 then
        f_X12_resultOf_L4 n (.inr (.inr (.inr (.inr (.inl (x0, x1, x3, x4, x2)))))) σ
      else
        f_X12_resultOf_L4 n (.inr (.inr (.inr (.inr (.inr ((x0, x1, x3, x4, x2, (1 : Int32)))))))) σ
  | n + 1, .inr (.inr (.inr (.inr (.inl (x0, x1, x3, x4, s0))))), σ =>
    f_X12_resultOf_L4 n (.inr (.inr (.inr (.inr (.inr ((x0, x1, x3, x4, s0, (0 : Int32)))))))) σ
  | n + 1, .inr (.inr (.inr (.inr (.inr ((x0, x1, x3, x4, s0, s1)))))), σ =>
    eLet ((s0 + s1) : Int32) (fun v1 =>
      f_X12_resultOf_L4 n (.inr (.inl (x0, x1, v1, x3, (x4 + (1 : Int32))))) σ
      )
set_option maxHeartbeats 4000000 in
set_option maxRecDepth 20000 in
theorem s_X12_resultOf_L4 : ∀ (n : Nat), (∀ (x0 : Nat) (x1 : Int32) (x2 : Int32) (x3 : Int32) (σ : eMem), Snd false none 0 m_X12_resultOf (f_X12_resultOf_L4 n (.inl (x0, x1, x2, x3)) σ) (cN iI) (4, [(0, .inr (.inr (x0))), (1, .inl (x1)), (2, .inl (x2)), (3, .inl (x3))], [], hp σ, 0, 0)) ∧ (∀ (x0 : Nat) (x1 : Int32) (x2 : Int32) (x3 : Int32) (x4 : Int32) (σ : eMem), Snd false none 0 m_X12_resultOf (f_X12_resultOf_L4 n (.inr (.inl (x0, x1, x2, x3, x4))) σ) (cN iI) (12, [(0, .inr (.inr (x0))), (1, .inl (x1)), (2, .inl (x2)), (3, .inl (x3)), (4, .inl (x4))], [], hp σ, 0, 0)) ∧ (∀ (x0 : Nat) (x1 : Int32) (x2 : Int32) (x3 : Int32) (x4 : Int32) (σ : eMem), Snd false none 0 m_X12_resultOf (f_X12_resultOf_L4 n (.inr (.inr (.inl (x0, x1, x2, x3, x4)))) σ) (cN iI) (53, [(0, .inr (.inr (x0))), (1, .inl (x1)), (2, .inl (x2)), (3, .inl (x3)), (4, .inl (x4))], [], hp σ, 0, 0)) ∧ (∀ (x0 : Nat) (x1 : Int32) (x2 : Int32) (x3 : Int32) (x4 : Int32) (s0 : Int32) (σ : eMem), Snd false none 0 m_X12_resultOf (f_X12_resultOf_L4 n (.inr (.inr (.inr (.inl (x0, x1, x2, x3, x4, s0))))) σ) (cN iI) (58, [(0, .inr (.inr (x0))), (1, .inl (x1)), (2, .inl (x2)), (3, .inl (x3)), (4, .inl (x4))], [.inl (s0)], hp σ, 0, 0)) ∧ (∀ (x0 : Nat) (x1 : Int32) (x3 : Int32) (x4 : Int32) (s0 : Int32) (σ : eMem), Snd false none 0 m_X12_resultOf (f_X12_resultOf_L4 n (.inr (.inr (.inr (.inr (.inl (x0, x1, x3, x4, s0)))))) σ) (cN iI) (80, [(0, .inr (.inr (x0))), (1, .inl (x1)), (3, .inl (x3)), (4, .inl (x4))], [.inl (s0)], hp σ, 0, 0)) ∧ (∀ (x0 : Nat) (x1 : Int32) (x3 : Int32) (x4 : Int32) (s0 : Int32) (s1 : Int32) (σ : eMem), Snd false none 0 m_X12_resultOf (f_X12_resultOf_L4 n (.inr (.inr (.inr (.inr (.inr ((x0, x1, x3, x4, s0, s1))))))) σ) (cN iI) (81, [(0, .inr (.inr (x0))), (1, .inl (x1)), (3, .inl (x3)), (4, .inl (x4))], [.inl (s1), .inl (s0)], hp σ, 0, 0)) := by
  intro n
  induction n with
  | zero => exact ⟨fun _ _ _ _ _ => T_none, fun _ _ _ _ _ _ => T_none, fun _ _ _ _ _ _ => T_none, fun _ _ _ _ _ _ _ => T_none, fun _ _ _ _ _ _ => T_none, fun _ _ _ _ _ _ _ => T_none⟩
  | succ n ih =>
    refine ⟨?_, ?_, ?_, ?_, ?_, ?_⟩
    · intro x0 x1 x2 x3 σ
      unfold f_X12_resultOf_L4
      refine T_go (S' := (6, [(0, .inr (.inr (x0))), (1, .inl (x1)), (2, .inl (x2)), (3, .inl (x3))], [.inl ((3 : Int32)), .inl (x3)], hp σ, 0, 0)) 2 rfl ?_
      refine T_icmp_ge 95 rfl rfl (fun _ => ?_) (fun _ => ?_)
      · refine T_go (S' := (96, [(0, .inr (.inr (x0))), (1, .inl (x1)), (2, .inl (x2)), (3, .inl (x3))], [.inl (x2)], hp σ, 0, 0)) 1 rfl ?_
        exact T_ret rfl
      · refine T_go (S' := (12, [(4, .inl ((0 : Int32))), (0, .inr (.inr (x0))), (1, .inl (x1)), (2, .inl (x2)), (3, .inl (x3))], [], hp σ, 0, 0)) 2 rfl ?_
        refine T_loc (ls' := [(0, .inr (.inr (x0))), (1, .inl (x1)), (2, .inl (x2)), (3, .inl (x3)), (4, .inl ((0 : Int32)))]) [1, 2, 3, 4, 0] rfl ?_
        exact (ih.2.1) x0 x1 x2 x3 (0 : Int32) σ
    · intro x0 x1 x2 x3 x4 σ
      unfold f_X12_resultOf_L4
      refine T_go (S' := (15, [(0, .inr (.inr (x0))), (1, .inl (x1)), (2, .inl (x2)), (3, .inl (x3)), (4, .inl (x4))], [.inr (.inr (x0)), .inl (x4)], hp σ, 0, 0)) 2 rfl ?_
      refine T_getR rfl (fun _ => ?_)
      refine T_go (S' := (19, [(0, .inr (.inr (x0))), (1, .inl (x1)), (2, .inl (x2)), (3, .inl (x3)), (4, .inl (x4))], [.inl (x3), .inr (.inr ((RH x0 33))), .inl (x4)], hp σ, 0, 0)) 1 rfl ?_
      refine T_iald rfl (fun _ => ?_)
      refine T_icmp_ge 89 rfl rfl (fun _ => ?_) (fun _ => ?_)
      · refine T_go (S' := (4, [(3, .inl ((x3 + (1 : Int32)))), (0, .inr (.inr (x0))), (1, .inl (x1)), (2, .inl (x2)), (4, .inl (x4))], [], hp σ, 0, 0)) 2 rfl ?_
        refine T_loc (ls' := [(0, .inr (.inr (x0))), (1, .inl (x1)), (2, .inl (x2)), (3, .inl ((x3 + (1 : Int32))))]) [1, 2, 3, 0] rfl ?_
        exact (ih.1) x0 x1 x2 (x3 + (1 : Int32)) σ
      · refine T_go (S' := (24, [(0, .inr (.inr (x0))), (1, .inl (x1)), (2, .inl (x2)), (3, .inl (x3)), (4, .inl (x4))], [.inr (.inr (x0))], hp σ, 0, 0)) 1 rfl ?_
        refine T_getR rfl (fun _ => ?_)
        refine T_go (S' := (33, [(0, .inr (.inr (x0))), (1, .inl (x1)), (2, .inl (x2)), (3, .inl (x3)), (4, .inl (x4))], [.inl ((((4 : Int32) * x3) + x4)), .inr (.inr ((RH x0 34)))], hp σ, 0, 0)) 5 rfl ?_
        refine T_iald rfl (fun _ => ?_)
        refine T_go (S' := (35, [(0, .inr (.inr (x0))), (1, .inl (x1)), (2, .inl (x2)), (3, .inl (x3)), (4, .inl (x4))], [.inl ((1 : Int32)), .inl ((σ.1 (RH x0 34) (((4 : Int32) * x3) + x4).toNatClampNeg))], hp σ, 0, 0)) 1 rfl ?_
        refine T_icmp_eq 53 rfl rfl (fun _ => ?_) (fun _ => ?_)
        · refine T_loc (ls' := [(0, .inr (.inr (x0))), (1, .inl (x1)), (2, .inl (x2)), (3, .inl (x3)), (4, .inl (x4))]) [0, 1, 2, 3, 4] rfl ?_
          exact (ih.2.2.1) x0 x1 x2 x3 x4 σ
        · refine T_go (S' := (39, [(0, .inr (.inr (x0))), (1, .inl (x1)), (2, .inl (x2)), (3, .inl (x3)), (4, .inl (x4))], [.inr (.inr (x0))], hp σ, 0, 0)) 1 rfl ?_
          refine T_getR rfl (fun _ => ?_)
          refine T_go (S' := (48, [(0, .inr (.inr (x0))), (1, .inl (x1)), (2, .inl (x2)), (3, .inl (x3)), (4, .inl (x4))], [.inl ((((4 : Int32) * x3) + x4)), .inr (.inr ((RH x0 34)))], hp σ, 0, 0)) 5 rfl ?_
          refine T_iald rfl (fun _ => ?_)
          refine T_go (S' := (50, [(0, .inr (.inr (x0))), (1, .inl (x1)), (2, .inl (x2)), (3, .inl (x3)), (4, .inl (x4))], [.inl ((3 : Int32)), .inl ((σ.1 (RH x0 34) (((4 : Int32) * x3) + x4).toNatClampNeg))], hp σ, 0, 0)) 1 rfl ?_
          refine T_icmp_ne 57 rfl rfl (fun _ => ?_) (fun _ => ?_)
          · refine T_go (S' := (58, [(0, .inr (.inr (x0))), (1, .inl (x1)), (2, .inl (x2)), (3, .inl (x3)), (4, .inl (x4))], [.inl ((0 : Int32))], hp σ, 0, 0)) 1 rfl ?_
            refine T_loc (ls' := [(0, .inr (.inr (x0))), (1, .inl (x1)), (2, .inl (x2)), (3, .inl (x3)), (4, .inl (x4))]) [0, 1, 2, 3, 4] rfl ?_
            exact (ih.2.2.2.1) x0 x1 x2 x3 x4 (0 : Int32) σ
          · refine T_loc (ls' := [(0, .inr (.inr (x0))), (1, .inl (x1)), (2, .inl (x2)), (3, .inl (x3)), (4, .inl (x4))]) [0, 1, 2, 3, 4] rfl ?_
            exact (ih.2.2.1) x0 x1 x2 x3 x4 σ
    · intro x0 x1 x2 x3 x4 σ
      unfold f_X12_resultOf_L4
      refine T_go (S' := (58, [(0, .inr (.inr (x0))), (1, .inl (x1)), (2, .inl (x2)), (3, .inl (x3)), (4, .inl (x4))], [.inl ((1 : Int32))], hp σ, 0, 0)) 2 rfl ?_
      refine T_loc (ls' := [(0, .inr (.inr (x0))), (1, .inl (x1)), (2, .inl (x2)), (3, .inl (x3)), (4, .inl (x4))]) [0, 1, 2, 3, 4] rfl ?_
      exact (ih.2.2.2.1) x0 x1 x2 x3 x4 (1 : Int32) σ
    · intro x0 x1 x2 x3 x4 s0 σ
      unfold f_X12_resultOf_L4
      refine T_go (S' := (63, [(5, .inl (s0)), (0, .inr (.inr (x0))), (1, .inl (x1)), (2, .inl (x2)), (3, .inl (x3)), (4, .inl (x4))], [.inl (s0), .inl (x2)], hp σ, 0, 0)) 3 rfl ?_
      refine T_if_eq 80 rfl rfl (fun _ => ?_) (fun _ => ?_)
      · refine T_loc (ls' := [(0, .inr (.inr (x0))), (1, .inl (x1)), (3, .inl (x3)), (4, .inl (x4))]) [1, 2, 4, 5] rfl ?_
        exact (ih.2.2.2.2.1) x0 x1 x3 x4 x2 σ
      · refine T_go (S' := (73, [(5, .inl (s0)), (0, .inr (.inr (x0))), (1, .inl (x1)), (2, .inl (x2)), (3, .inl (x3)), (4, .inl (x4))], [.inl (x1), .inl ((((4 : Int32) * x3) + x4)), .inl (x2)], hp σ, 0, 0)) 6 rfl ?_
        refine T_icmp_le 80 rfl rfl (fun _ => ?_) (fun _ => ?_)
        · refine T_loc (ls' := [(0, .inr (.inr (x0))), (1, .inl (x1)), (3, .inl (x3)), (4, .inl (x4))]) [1, 2, 4, 5] rfl ?_
          exact (ih.2.2.2.2.1) x0 x1 x3 x4 x2 σ
        · refine T_go (S' := (81, [(5, .inl (s0)), (0, .inr (.inr (x0))), (1, .inl (x1)), (2, .inl (x2)), (3, .inl (x3)), (4, .inl (x4))], [.inl ((1 : Int32)), .inl (x2)], hp σ, 0, 0)) 2 rfl ?_
          refine T_loc (ls' := [(0, .inr (.inr (x0))), (1, .inl (x1)), (3, .inl (x3)), (4, .inl (x4))]) [1, 2, 4, 5] rfl ?_
          exact (ih.2.2.2.2.2) x0 x1 x3 x4 x2 (1 : Int32) σ
    · intro x0 x1 x3 x4 s0 σ
      unfold f_X12_resultOf_L4
      refine T_go (S' := (81, [(0, .inr (.inr (x0))), (1, .inl (x1)), (3, .inl (x3)), (4, .inl (x4))], [.inl ((0 : Int32)), .inl (s0)], hp σ, 0, 0)) 1 rfl ?_
      refine T_loc (ls' := [(0, .inr (.inr (x0))), (1, .inl (x1)), (3, .inl (x3)), (4, .inl (x4))]) [0, 1, 2, 3] rfl ?_
      exact (ih.2.2.2.2.2) x0 x1 x3 x4 s0 (0 : Int32) σ
    · intro x0 x1 x3 x4 s0 s1 σ
      unfold f_X12_resultOf_L4
      refine T_go (S' := (83, [(2, .inl ((s0 + s1))), (0, .inr (.inr (x0))), (1, .inl (x1)), (3, .inl (x3)), (4, .inl (x4))], [], hp σ, 0, 0)) 2 rfl ?_
      refine T_let (Sf := fun v1 => (83, [(2, .inl (v1)), (0, .inr (.inr (x0))), (1, .inl (x1)), (3, .inl (x3)), (4, .inl (x4))], [], hp σ, 0, 0)) (fun v1 => ?_)
      refine T_go (S' := (12, [(4, .inl ((x4 + (1 : Int32)))), (2, .inl (v1)), (0, .inr (.inr (x0))), (1, .inl (x1)), (3, .inl (x3))], [], hp σ, 0, 0)) 2 rfl ?_
      refine T_loc (ls' := [(0, .inr (.inr (x0))), (1, .inl (x1)), (2, .inl (v1)), (3, .inl (x3)), (4, .inl ((x4 + (1 : Int32))))]) [2, 3, 1, 4, 0] rfl ?_
      exact (ih.2.1) x0 x1 v1 x3 (x4 + (1 : Int32)) σ
def f_X12_resultOf (x0 : Nat) (x1 : Int32) (σ : eMem) : Option (Int32 × eMem) :=
  f_X12_resultOf_L4 1000000 (.inl (x0, x1, (0 : Int32), (0 : Int32))) σ
set_option maxHeartbeats 4000000 in
set_option maxRecDepth 20000 in
theorem s_X12_resultOf (x0 : Nat) (x1 : Int32) (σ : eMem) : ∀ r, f_X12_resultOf x0 x1 σ = some r → Ew false 1 191 [.inr (.inr (x0)), .inl (x1)] (hp σ) (cN iI r) := by
  refine T_meth (md := m_X12_resultOf) (d0 := 0) (cv := (cN iI)) rfl (lb rfl) (lb rfl) ?_
  unfold f_X12_resultOf
  show Snd false none _ _ _ _ (0, [(0, .inr (.inr (x0))), (1, .inl (x1))], [], hp σ, 0, 0)
  refine T_go (S' := (4, [(3, .inl ((0 : Int32))), (2, .inl ((0 : Int32))), (0, .inr (.inr (x0))), (1, .inl (x1))], [], hp σ, 0, 0)) 4 rfl ?_
  refine T_loc (ls' := [(0, .inr (.inr (x0))), (1, .inl (x1)), (2, .inl ((0 : Int32))), (3, .inl ((0 : Int32)))]) [2, 3, 1, 0] rfl ?_
  exact (s_X12_resultOf_L4 1000000).1 x0 x1 (0 : Int32) (0 : Int32) σ
def f_X12_storeAt_L9 : Nat → (Nat × Int32 × Int32 × Int32 × Int32 × Int32 ⊕ (Nat × Int32 × Int32 × Int32 × Int32 × Int32 ⊕ (Nat × Int32 × Int32 × Int32 × Int32 × Int32))) → eMem → Option (Int32 × eMem)
  | 0, _, _ => none
  | n + 1, .inl (x0, x1, x2, x4, x5, x6), σ =>
    if x2 ≤ x6 then
      some (x5, σ)
    else
      if (KH x0).1 = 10 then
        if (KH (RH x0 34)).1 = 11 ∧ eix (((4 : Int32) * x1) + x6) (KH (RH x0 34)).2 = true then
          if ¬ (σ.1 (RH x0 34) (((4 : Int32) * x1) + x6).toNatClampNeg) = (0 : Int32) then
            f_X12_storeAt_L9 n (.inr (.inr ((x0, x1, x2, x4, x5, x6)))) σ
          else
            if ¬ x4 = (0 : Int32) then
              f_X12_storeAt_L9 n (.inr (.inl (x0, x1, x2, x4, x6, x5))) σ
            else
              f_X12_storeAt_L9 n (.inr (.inl (x0, x1, x2, x4, x6, (((4 : Int32) * x1) + x6)))) σ
        else none
      else none
  | n + 1, .inr (.inl (x0, x1, x2, x4, x6, s0)), σ =>
    f_X12_storeAt_L9 n (.inr (.inr ((x0, x1, x2, (x4 + (-1 : Int32)), s0, x6)))) σ
  | n + 1, .inr (.inr ((x0, x1, x2, x4, x5, x6))), σ =>
    f_X12_storeAt_L9 n (.inl (x0, x1, x2, x4, x5, (x6 + (1 : Int32)))) σ
set_option maxHeartbeats 4000000 in
set_option maxRecDepth 20000 in
theorem s_X12_storeAt_L9 : ∀ (n : Nat), (∀ (x0 : Nat) (x1 : Int32) (x2 : Int32) (x4 : Int32) (x5 : Int32) (x6 : Int32) (σ : eMem), Snd false none 0 m_X12_storeAt (f_X12_storeAt_L9 n (.inl (x0, x1, x2, x4, x5, x6)) σ) (cN iI) (9, [(0, .inr (.inr (x0))), (1, .inl (x1)), (2, .inl (x2)), (4, .inl (x4)), (5, .inl (x5)), (6, .inl (x6))], [], hp σ, 0, 0)) ∧ (∀ (x0 : Nat) (x1 : Int32) (x2 : Int32) (x4 : Int32) (x6 : Int32) (s0 : Int32) (σ : eMem), Snd false none 0 m_X12_storeAt (f_X12_storeAt_L9 n (.inr (.inl (x0, x1, x2, x4, x6, s0))) σ) (cN iI) (45, [(0, .inr (.inr (x0))), (1, .inl (x1)), (2, .inl (x2)), (4, .inl (x4)), (6, .inl (x6))], [.inl (s0)], hp σ, 0, 0)) ∧ (∀ (x0 : Nat) (x1 : Int32) (x2 : Int32) (x4 : Int32) (x5 : Int32) (x6 : Int32) (σ : eMem), Snd false none 0 m_X12_storeAt (f_X12_storeAt_L9 n (.inr (.inr ((x0, x1, x2, x4, x5, x6)))) σ) (cN iI) (50, [(0, .inr (.inr (x0))), (1, .inl (x1)), (2, .inl (x2)), (4, .inl (x4)), (5, .inl (x5)), (6, .inl (x6))], [], hp σ, 0, 0)) := by
  intro n
  induction n with
  | zero => exact ⟨fun _ _ _ _ _ _ _ => T_none, fun _ _ _ _ _ _ _ => T_none, fun _ _ _ _ _ _ _ => T_none⟩
  | succ n ih =>
    refine ⟨?_, ?_, ?_⟩
    · intro x0 x1 x2 x4 x5 x6 σ
      unfold f_X12_storeAt_L9
      refine T_go (S' := (12, [(0, .inr (.inr (x0))), (1, .inl (x1)), (2, .inl (x2)), (4, .inl (x4)), (5, .inl (x5)), (6, .inl (x6))], [.inl (x2), .inl (x6)], hp σ, 0, 0)) 2 rfl ?_
      refine T_icmp_ge 56 rfl rfl (fun _ => ?_) (fun _ => ?_)
      · refine T_go (S' := (58, [(0, .inr (.inr (x0))), (1, .inl (x1)), (2, .inl (x2)), (4, .inl (x4)), (5, .inl (x5)), (6, .inl (x6))], [.inl (x5)], hp σ, 0, 0)) 1 rfl ?_
        exact T_ret rfl
      · refine T_go (S' := (16, [(0, .inr (.inr (x0))), (1, .inl (x1)), (2, .inl (x2)), (4, .inl (x4)), (5, .inl (x5)), (6, .inl (x6))], [.inr (.inr (x0))], hp σ, 0, 0)) 1 rfl ?_
        refine T_getR rfl (fun _ => ?_)
        refine T_go (S' := (25, [(0, .inr (.inr (x0))), (1, .inl (x1)), (2, .inl (x2)), (4, .inl (x4)), (5, .inl (x5)), (6, .inl (x6))], [.inl ((((4 : Int32) * x1) + x6)), .inr (.inr ((RH x0 34)))], hp σ, 0, 0)) 5 rfl ?_
        refine T_iald rfl (fun _ => ?_)
        refine T_if_ne 50 rfl rfl (fun _ => ?_) (fun _ => ?_)
        · refine T_loc (ls' := [(0, .inr (.inr (x0))), (1, .inl (x1)), (2, .inl (x2)), (4, .inl (x4)), (5, .inl (x5)), (6, .inl (x6))]) [0, 1, 2, 3, 4, 5] rfl ?_
          exact (ih.2.2) x0 x1 x2 x4 x5 x6 σ
        · refine T_go (S' := (31, [(0, .inr (.inr (x0))), (1, .inl (x1)), (2, .inl (x2)), (4, .inl (x4)), (5, .inl (x5)), (6, .inl (x6))], [.inl (x4)], hp σ, 0, 0)) 1 rfl ?_
          refine T_if_ne 43 rfl rfl (fun _ => ?_) (fun _ => ?_)
          · refine T_go (S' := (45, [(0, .inr (.inr (x0))), (1, .inl (x1)), (2, .inl (x2)), (4, .inl (x4)), (5, .inl (x5)), (6, .inl (x6))], [.inl (x5)], hp σ, 0, 0)) 1 rfl ?_
            refine T_loc (ls' := [(0, .inr (.inr (x0))), (1, .inl (x1)), (2, .inl (x2)), (4, .inl (x4)), (6, .inl (x6))]) [0, 1, 2, 3, 5] rfl ?_
            exact (ih.2.1) x0 x1 x2 x4 x6 x5 σ
          · refine T_go (S' := (45, [(0, .inr (.inr (x0))), (1, .inl (x1)), (2, .inl (x2)), (4, .inl (x4)), (5, .inl (x5)), (6, .inl (x6))], [.inl ((((4 : Int32) * x1) + x6))], hp σ, 0, 0)) 6 rfl ?_
            refine T_loc (ls' := [(0, .inr (.inr (x0))), (1, .inl (x1)), (2, .inl (x2)), (4, .inl (x4)), (6, .inl (x6))]) [0, 1, 2, 3, 5] rfl ?_
            exact (ih.2.1) x0 x1 x2 x4 x6 (((4 : Int32) * x1) + x6) σ
    · intro x0 x1 x2 x4 x6 s0 σ
      unfold f_X12_storeAt_L9
      refine T_go (S' := (50, [(4, .inl ((x4 + (-1 : Int32)))), (5, .inl (s0)), (0, .inr (.inr (x0))), (1, .inl (x1)), (2, .inl (x2)), (6, .inl (x6))], [], hp σ, 0, 0)) 2 rfl ?_
      refine T_loc (ls' := [(0, .inr (.inr (x0))), (1, .inl (x1)), (2, .inl (x2)), (4, .inl ((x4 + (-1 : Int32)))), (5, .inl (s0)), (6, .inl (x6))]) [2, 3, 4, 0, 1, 5] rfl ?_
      exact (ih.2.2) x0 x1 x2 (x4 + (-1 : Int32)) s0 x6 σ
    · intro x0 x1 x2 x4 x5 x6 σ
      unfold f_X12_storeAt_L9
      refine T_go (S' := (9, [(6, .inl ((x6 + (1 : Int32)))), (0, .inr (.inr (x0))), (1, .inl (x1)), (2, .inl (x2)), (4, .inl (x4)), (5, .inl (x5))], [], hp σ, 0, 0)) 2 rfl ?_
      refine T_loc (ls' := [(0, .inr (.inr (x0))), (1, .inl (x1)), (2, .inl (x2)), (4, .inl (x4)), (5, .inl (x5)), (6, .inl ((x6 + (1 : Int32))))]) [1, 2, 3, 4, 5, 0] rfl ?_
      exact (ih.1) x0 x1 x2 x4 x5 (x6 + (1 : Int32)) σ
def f_X12_storeAt (x0 : Nat) (x1 : Int32) (x2 : Int32) (x3 : Int32) (σ : eMem) : Option (Int32 × eMem) :=
  f_X12_storeAt_L9 1000000 (.inl (x0, x1, x2, x3, (-1 : Int32), (0 : Int32))) σ
set_option maxHeartbeats 4000000 in
set_option maxRecDepth 20000 in
theorem s_X12_storeAt (x0 : Nat) (x1 : Int32) (x2 : Int32) (x3 : Int32) (σ : eMem) : ∀ r, f_X12_storeAt x0 x1 x2 x3 σ = some r → Ew false 1 192 [.inr (.inr (x0)), .inl (x1), .inl (x2), .inl (x3)] (hp σ) (cN iI r) := by
  refine T_meth (md := m_X12_storeAt) (d0 := 0) (cv := (cN iI)) rfl (lb rfl) (lb rfl) ?_
  unfold f_X12_storeAt
  show Snd false none _ _ _ _ (0, [(0, .inr (.inr (x0))), (1, .inl (x1)), (2, .inl (x2)), (3, .inl (x3))], [], hp σ, 0, 0)
  refine T_go (S' := (9, [(6, .inl ((0 : Int32))), (5, .inl ((-1 : Int32))), (4, .inl (x3)), (0, .inr (.inr (x0))), (1, .inl (x1)), (2, .inl (x2)), (3, .inl (x3))], [], hp σ, 0, 0)) 6 rfl ?_
  refine T_loc (ls' := [(0, .inr (.inr (x0))), (1, .inl (x1)), (2, .inl (x2)), (4, .inl (x3)), (5, .inl ((-1 : Int32))), (6, .inl ((0 : Int32)))]) [3, 4, 5, 2, 1, 0] rfl ?_
  exact (s_X12_storeAt_L9 1000000).1 x0 x1 x2 x3 (-1 : Int32) (0 : Int32) σ
def f_X12_storesOf_L5 : Nat → (Nat × Int32 × Int32 × Int32 × Int32 ⊕ (Nat × Int32 × Int32 × Int32 × Int32 × Int32)) → eMem → Option (Int32 × eMem)
  | 0, _, _ => none
  | n + 1, .inl (x0, x1, x2, x3, x4), σ =>
    if x2 ≤ x4 then
      some (x3, σ)
    else
      if (KH x0).1 = 10 then
        if (KH (RH x0 34)).1 = 11 ∧ eix (((4 : Int32) * x1) + x4) (KH (RH x0 34)).2 = true then
          if ¬ (σ.1 (RH x0 34) (((4 : Int32) * x1) + x4).toNatClampNeg) = (0 : Int32) then
            f_X12_storesOf_L5 n (.inr ((x0, x1, x2, x4, x3, (0 : Int32)))) σ
          else
            f_X12_storesOf_L5 n (.inr ((x0, x1, x2, x4, x3, (1 : Int32)))) σ
        else none
      else none
  | n + 1, .inr ((x0, x1, x2, x4, s0, s1)), σ =>
    eLet ((s0 + s1) : Int32) (fun v1 =>
      f_X12_storesOf_L5 n (.inl (x0, x1, x2, v1, (x4 + (1 : Int32)))) σ
      )
set_option maxHeartbeats 4000000 in
set_option maxRecDepth 20000 in
theorem s_X12_storesOf_L5 : ∀ (n : Nat), (∀ (x0 : Nat) (x1 : Int32) (x2 : Int32) (x3 : Int32) (x4 : Int32) (σ : eMem), Snd false none 0 m_X12_storesOf (f_X12_storesOf_L5 n (.inl (x0, x1, x2, x3, x4)) σ) (cN iI) (5, [(0, .inr (.inr (x0))), (1, .inl (x1)), (2, .inl (x2)), (3, .inl (x3)), (4, .inl (x4))], [], hp σ, 0, 0)) ∧ (∀ (x0 : Nat) (x1 : Int32) (x2 : Int32) (x4 : Int32) (s0 : Int32) (s1 : Int32) (σ : eMem), Snd false none 0 m_X12_storesOf (f_X12_storesOf_L5 n (.inr ((x0, x1, x2, x4, s0, s1))) σ) (cN iI) (31, [(0, .inr (.inr (x0))), (1, .inl (x1)), (2, .inl (x2)), (4, .inl (x4))], [.inl (s1), .inl (s0)], hp σ, 0, 0)) := by
  intro n
  induction n with
  | zero => exact ⟨fun _ _ _ _ _ _ => T_none, fun _ _ _ _ _ _ _ => T_none⟩
  | succ n ih =>
    refine ⟨?_, ?_⟩
    · intro x0 x1 x2 x3 x4 σ
      unfold f_X12_storesOf_L5
      refine T_go (S' := (8, [(0, .inr (.inr (x0))), (1, .inl (x1)), (2, .inl (x2)), (3, .inl (x3)), (4, .inl (x4))], [.inl (x2), .inl (x4)], hp σ, 0, 0)) 2 rfl ?_
      refine T_icmp_ge 39 rfl rfl (fun _ => ?_) (fun _ => ?_)
      · refine T_go (S' := (40, [(0, .inr (.inr (x0))), (1, .inl (x1)), (2, .inl (x2)), (3, .inl (x3)), (4, .inl (x4))], [.inl (x3)], hp σ, 0, 0)) 1 rfl ?_
        exact T_ret rfl
      · refine T_go (S' := (13, [(0, .inr (.inr (x0))), (1, .inl (x1)), (2, .inl (x2)), (3, .inl (x3)), (4, .inl (x4))], [.inr (.inr (x0)), .inl (x3)], hp σ, 0, 0)) 2 rfl ?_
        refine T_getR rfl (fun _ => ?_)
        refine T_go (S' := (22, [(0, .inr (.inr (x0))), (1, .inl (x1)), (2, .inl (x2)), (3, .inl (x3)), (4, .inl (x4))], [.inl ((((4 : Int32) * x1) + x4)), .inr (.inr ((RH x0 34))), .inl (x3)], hp σ, 0, 0)) 5 rfl ?_
        refine T_iald rfl (fun _ => ?_)
        refine T_if_ne 30 rfl rfl (fun _ => ?_) (fun _ => ?_)
        · refine T_go (S' := (31, [(0, .inr (.inr (x0))), (1, .inl (x1)), (2, .inl (x2)), (3, .inl (x3)), (4, .inl (x4))], [.inl ((0 : Int32)), .inl (x3)], hp σ, 0, 0)) 1 rfl ?_
          refine T_loc (ls' := [(0, .inr (.inr (x0))), (1, .inl (x1)), (2, .inl (x2)), (4, .inl (x4))]) [0, 1, 2, 4] rfl ?_
          exact (ih.2) x0 x1 x2 x4 x3 (0 : Int32) σ
        · refine T_go (S' := (31, [(0, .inr (.inr (x0))), (1, .inl (x1)), (2, .inl (x2)), (3, .inl (x3)), (4, .inl (x4))], [.inl ((1 : Int32)), .inl (x3)], hp σ, 0, 0)) 2 rfl ?_
          refine T_loc (ls' := [(0, .inr (.inr (x0))), (1, .inl (x1)), (2, .inl (x2)), (4, .inl (x4))]) [0, 1, 2, 4] rfl ?_
          exact (ih.2) x0 x1 x2 x4 x3 (1 : Int32) σ
    · intro x0 x1 x2 x4 s0 s1 σ
      unfold f_X12_storesOf_L5
      refine T_go (S' := (33, [(3, .inl ((s0 + s1))), (0, .inr (.inr (x0))), (1, .inl (x1)), (2, .inl (x2)), (4, .inl (x4))], [], hp σ, 0, 0)) 2 rfl ?_
      refine T_let (Sf := fun v1 => (33, [(3, .inl (v1)), (0, .inr (.inr (x0))), (1, .inl (x1)), (2, .inl (x2)), (4, .inl (x4))], [], hp σ, 0, 0)) (fun v1 => ?_)
      refine T_go (S' := (5, [(4, .inl ((x4 + (1 : Int32)))), (3, .inl (v1)), (0, .inr (.inr (x0))), (1, .inl (x1)), (2, .inl (x2))], [], hp σ, 0, 0)) 2 rfl ?_
      refine T_loc (ls' := [(0, .inr (.inr (x0))), (1, .inl (x1)), (2, .inl (x2)), (3, .inl (v1)), (4, .inl ((x4 + (1 : Int32))))]) [2, 3, 4, 1, 0] rfl ?_
      exact (ih.1) x0 x1 x2 v1 (x4 + (1 : Int32)) σ
def f_X12_storesOf (x0 : Nat) (x1 : Int32) (x2 : Int32) (σ : eMem) : Option (Int32 × eMem) :=
  f_X12_storesOf_L5 1000000 (.inl (x0, x1, x2, (0 : Int32), (0 : Int32))) σ
set_option maxHeartbeats 4000000 in
set_option maxRecDepth 20000 in
theorem s_X12_storesOf (x0 : Nat) (x1 : Int32) (x2 : Int32) (σ : eMem) : ∀ r, f_X12_storesOf x0 x1 x2 σ = some r → Ew false 1 193 [.inr (.inr (x0)), .inl (x1), .inl (x2)] (hp σ) (cN iI r) := by
  refine T_meth (md := m_X12_storesOf) (d0 := 0) (cv := (cN iI)) rfl (lb rfl) (lb rfl) ?_
  unfold f_X12_storesOf
  show Snd false none _ _ _ _ (0, [(0, .inr (.inr (x0))), (1, .inl (x1)), (2, .inl (x2))], [], hp σ, 0, 0)
  refine T_go (S' := (5, [(4, .inl ((0 : Int32))), (3, .inl ((0 : Int32))), (0, .inr (.inr (x0))), (1, .inl (x1)), (2, .inl (x2))], [], hp σ, 0, 0)) 4 rfl ?_
  refine T_loc (ls' := [(0, .inr (.inr (x0))), (1, .inl (x1)), (2, .inl (x2)), (3, .inl ((0 : Int32))), (4, .inl ((0 : Int32)))]) [2, 3, 4, 1, 0] rfl ?_
  exact (s_X12_storesOf_L5 1000000).1 x0 x1 x2 (0 : Int32) (0 : Int32) σ
def f_X12_piles_114  (σ : eMem) : Option (Unit × eMem) :=
  some ((), σ)
set_option maxHeartbeats 4000000 in
set_option maxRecDepth 20000 in
theorem s_X12_piles_114  (σ : eMem) : Snd false none 0 m_X12_piles (f_X12_piles_114 σ) (cN iU) (114, [], [], hp σ, 0, 0) := by
  unfold f_X12_piles_114
  exact T_ret rfl
def f_X12_piles_94 (x0 : Nat) (x1 : Int64) (σ : eMem) : Option (Unit × eMem) :=
  if (KH x0).1 = 10 then
    if (KH x0).1 = 10 then
      if (KH (RH x0 37)).1 = 12 ∧ eix (σ.1 x0 38) (KH (RH x0 37)).2 = true then eLet ((σ.1, eup σ.2 (RH x0 37) (σ.1 x0 38).toNatClampNeg x1) : eMem) (fun σ1 =>
        if (KH x0).1 = 10 then
          if (KH x0).1 = 10 then eLet ((eup σ1.1 x0 38 ((σ1.1 x0 38) + (1 : Int32)), σ1.2) : eMem) (fun σ2 =>
            f_X12_piles_114  σ2
            ) else none
        else none
        ) else none
    else none
  else none
set_option maxHeartbeats 4000000 in
set_option maxRecDepth 20000 in
theorem s_X12_piles_94 (x0 : Nat) (x1 : Int64) (σ : eMem) : Snd false none 0 m_X12_piles (f_X12_piles_94 x0 x1 σ) (cN iU) (94, [(0, .inr (.inr (x0))), (1, .inr (.inl (x1)))], [], hp σ, 0, 0) := by
  unfold f_X12_piles_94
  refine T_go (S' := (95, [(0, .inr (.inr (x0))), (1, .inr (.inl (x1)))], [.inr (.inr (x0))], hp σ, 0, 0)) 1 rfl ?_
  refine T_getR rfl (fun _ => ?_)
  refine T_go (S' := (99, [(0, .inr (.inr (x0))), (1, .inr (.inl (x1)))], [.inr (.inr (x0)), .inr (.inr ((RH x0 37)))], hp σ, 0, 0)) 1 rfl ?_
  refine T_getI rfl (fun _ => ?_)
  refine T_go (S' := (103, [(0, .inr (.inr (x0))), (1, .inr (.inl (x1)))], [.inr (.inl (x1)), .inl ((σ.1 x0 38)), .inr (.inr ((RH x0 37)))], hp σ, 0, 0)) 1 rfl ?_
  refine T_last rfl (fun _ => ?_)
  refine T_let (Sf := fun σ1 => (104, [(0, .inr (.inr (x0))), (1, .inr (.inl (x1)))], [], hp σ1, 0, 0)) (fun σ1 => ?_)
  refine T_go (S' := (106, [(0, .inr (.inr (x0))), (1, .inr (.inl (x1)))], [.inr (.inr (x0)), .inr (.inr (x0))], hp σ1, 0, 0)) 2 rfl ?_
  refine T_getI rfl (fun _ => ?_)
  refine T_go (S' := (111, [(0, .inr (.inr (x0))), (1, .inr (.inl (x1)))], [.inl (((σ1.1 x0 38) + (1 : Int32))), .inr (.inr (x0))], hp σ1, 0, 0)) 2 rfl ?_
  refine T_putI rfl (fun _ => ?_)
  refine T_let (Sf := fun σ2 => (114, [(0, .inr (.inr (x0))), (1, .inr (.inl (x1)))], [], hp σ2, 0, 0)) (fun σ2 => ?_)
  refine T_loc (ls' := []) [] rfl ?_
  exact s_X12_piles_114  σ2
def f_X12_piles_54 (x0 : Nat) (x1 : Int64) (x3 : Int32) (σ : eMem) : Option (Unit × eMem) :=
  if (KH x0).1 = 10 then
    if (KH (RH x0 39)).1 = 12 ∧ eix x3 (KH (RH x0 39)).2 = true then
      if ¬ (lg_cmp (σ.2 (RH x0 39) x3.toNatClampNeg) (0 : Int64)) = (0 : Int32) then
        f_X12_piles_114  σ
      else
        if (KH x0).1 = 10 then
          if (8000 : Int32) ≤ (σ.1 x0 40) then
            f_X12_piles_94 x0 x1 σ
          else
            if (KH x0).1 = 10 then
              if (KH (RH x0 39)).1 = 12 ∧ eix x3 (KH (RH x0 39)).2 = true then eLet ((σ.1, eup σ.2 (RH x0 39) x3.toNatClampNeg (x1 + (1 : Int64))) : eMem) (fun σ1 =>
                if (KH x0).1 = 10 then
                  if (KH x0).1 = 10 then eLet ((eup σ1.1 x0 40 ((σ1.1 x0 40) + (1 : Int32)), σ1.2) : eMem) (fun σ2 =>
                    f_X12_piles_94 x0 x1 σ2
                    ) else none
                else none
                ) else none
            else none
        else none
    else none
  else none
set_option maxHeartbeats 4000000 in
set_option maxRecDepth 20000 in
theorem s_X12_piles_54 (x0 : Nat) (x1 : Int64) (x3 : Int32) (σ : eMem) : Snd false none 0 m_X12_piles (f_X12_piles_54 x0 x1 x3 σ) (cN iU) (54, [(0, .inr (.inr (x0))), (1, .inr (.inl (x1))), (3, .inl (x3))], [], hp σ, 0, 0) := by
  unfold f_X12_piles_54
  refine T_go (S' := (55, [(0, .inr (.inr (x0))), (1, .inr (.inl (x1))), (3, .inl (x3))], [.inr (.inr (x0))], hp σ, 0, 0)) 1 rfl ?_
  refine T_getR rfl (fun _ => ?_)
  refine T_go (S' := (59, [(0, .inr (.inr (x0))), (1, .inr (.inl (x1))), (3, .inl (x3))], [.inl (x3), .inr (.inr ((RH x0 39)))], hp σ, 0, 0)) 1 rfl ?_
  refine T_lald rfl (fun _ => ?_)
  refine T_go (S' := (62, [(0, .inr (.inr (x0))), (1, .inr (.inl (x1))), (3, .inl (x3))], [.inl ((lg_cmp (σ.2 (RH x0 39) x3.toNatClampNeg) (0 : Int64)))], hp σ, 0, 0)) 2 rfl ?_
  refine T_if_ne 114 rfl rfl (fun _ => ?_) (fun _ => ?_)
  · refine T_loc (ls' := []) [] rfl ?_
    exact s_X12_piles_114  σ
  · refine T_go (S' := (66, [(0, .inr (.inr (x0))), (1, .inr (.inl (x1))), (3, .inl (x3))], [.inr (.inr (x0))], hp σ, 0, 0)) 1 rfl ?_
    refine T_getI rfl (fun _ => ?_)
    refine T_go (S' := (72, [(0, .inr (.inr (x0))), (1, .inr (.inl (x1))), (3, .inl (x3))], [.inl ((8000 : Int32)), .inl ((σ.1 x0 40))], hp σ, 0, 0)) 1 rfl ?_
    refine T_icmp_ge 94 rfl rfl (fun _ => ?_) (fun _ => ?_)
    · refine T_loc (ls' := [(0, .inr (.inr (x0))), (1, .inr (.inl (x1)))]) [0, 1] rfl ?_
      exact s_X12_piles_94 x0 x1 σ
    · refine T_go (S' := (76, [(0, .inr (.inr (x0))), (1, .inr (.inl (x1))), (3, .inl (x3))], [.inr (.inr (x0))], hp σ, 0, 0)) 1 rfl ?_
      refine T_getR rfl (fun _ => ?_)
      refine T_go (S' := (83, [(0, .inr (.inr (x0))), (1, .inr (.inl (x1))), (3, .inl (x3))], [.inr (.inl ((x1 + (1 : Int64)))), .inl (x3), .inr (.inr ((RH x0 39)))], hp σ, 0, 0)) 4 rfl ?_
      refine T_last rfl (fun _ => ?_)
      refine T_let (Sf := fun σ1 => (84, [(0, .inr (.inr (x0))), (1, .inr (.inl (x1))), (3, .inl (x3))], [], hp σ1, 0, 0)) (fun σ1 => ?_)
      refine T_go (S' := (86, [(0, .inr (.inr (x0))), (1, .inr (.inl (x1))), (3, .inl (x3))], [.inr (.inr (x0)), .inr (.inr (x0))], hp σ1, 0, 0)) 2 rfl ?_
      refine T_getI rfl (fun _ => ?_)
      refine T_go (S' := (91, [(0, .inr (.inr (x0))), (1, .inr (.inl (x1))), (3, .inl (x3))], [.inl (((σ1.1 x0 40) + (1 : Int32))), .inr (.inr (x0))], hp σ1, 0, 0)) 2 rfl ?_
      refine T_putI rfl (fun _ => ?_)
      refine T_let (Sf := fun σ2 => (94, [(0, .inr (.inr (x0))), (1, .inr (.inl (x1))), (3, .inl (x3))], [], hp σ2, 0, 0)) (fun σ2 => ?_)
      refine T_loc (ls' := [(0, .inr (.inr (x0))), (1, .inr (.inl (x1)))]) [0, 1] rfl ?_
      exact s_X12_piles_94 x0 x1 σ2
def f_X12_piles_19 : Nat → Nat → Int64 → Int32 → eMem → Option (Unit × eMem)
  | 0, _, _, _, _ => none
  | n + 1, x0, x1, x3, σ =>
    if (KH x0).1 = 10 then
      if (KH (RH x0 39)).1 = 12 ∧ eix x3 (KH (RH x0 39)).2 = true then
        if (lg_cmp (σ.2 (RH x0 39) x3.toNatClampNeg) (0 : Int64)) = (0 : Int32) then
          f_X12_piles_54 x0 x1 x3 σ
        else
          if (KH x0).1 = 10 then
            if (KH (RH x0 39)).1 = 12 ∧ eix x3 (KH (RH x0 39)).2 = true then
              if (lg_cmp (σ.2 (RH x0 39) x3.toNatClampNeg) (x1 + (1 : Int64))) = (0 : Int32) then
                f_X12_piles_54 x0 x1 x3 σ
              else
                if ¬ (8192 : Int32) = 0 then
                  eLet (((x3 + (1 : Int32)) - (x3 + (1 : Int32)) / (8192 : Int32) * (8192 : Int32)) : Int32) (fun v1 =>
                    f_X12_piles_19 n x0 x1 v1 σ
                    )
                else none
            else none
          else none
      else none
    else none
set_option maxHeartbeats 4000000 in
set_option maxRecDepth 20000 in
theorem s_X12_piles_19 : ∀ (n : Nat) (x0 : Nat) (x1 : Int64) (x3 : Int32) (σ : eMem), Snd false none 0 m_X12_piles (f_X12_piles_19 n x0 x1 x3 σ) (cN iU) (19, [(0, .inr (.inr (x0))), (1, .inr (.inl (x1))), (3, .inl (x3))], [], hp σ, 0, 0) := by
  intro n
  induction n with
  | zero => exact fun _ _ _ _ => T_none
  | succ n ih =>
    intro x0 x1 x3 σ
    unfold f_X12_piles_19
    refine T_go (S' := (20, [(0, .inr (.inr (x0))), (1, .inr (.inl (x1))), (3, .inl (x3))], [.inr (.inr (x0))], hp σ, 0, 0)) 1 rfl ?_
    refine T_getR rfl (fun _ => ?_)
    refine T_go (S' := (24, [(0, .inr (.inr (x0))), (1, .inr (.inl (x1))), (3, .inl (x3))], [.inl (x3), .inr (.inr ((RH x0 39)))], hp σ, 0, 0)) 1 rfl ?_
    refine T_lald rfl (fun _ => ?_)
    refine T_go (S' := (27, [(0, .inr (.inr (x0))), (1, .inr (.inl (x1))), (3, .inl (x3))], [.inl ((lg_cmp (σ.2 (RH x0 39) x3.toNatClampNeg) (0 : Int64)))], hp σ, 0, 0)) 2 rfl ?_
    refine T_if_eq 54 rfl rfl (fun _ => ?_) (fun _ => ?_)
    · refine T_loc (ls' := [(0, .inr (.inr (x0))), (1, .inr (.inl (x1))), (3, .inl (x3))]) [0, 1, 2] rfl ?_
      exact s_X12_piles_54 x0 x1 x3 σ
    · refine T_go (S' := (31, [(0, .inr (.inr (x0))), (1, .inr (.inl (x1))), (3, .inl (x3))], [.inr (.inr (x0))], hp σ, 0, 0)) 1 rfl ?_
      refine T_getR rfl (fun _ => ?_)
      refine T_go (S' := (35, [(0, .inr (.inr (x0))), (1, .inr (.inl (x1))), (3, .inl (x3))], [.inl (x3), .inr (.inr ((RH x0 39)))], hp σ, 0, 0)) 1 rfl ?_
      refine T_lald rfl (fun _ => ?_)
      refine T_go (S' := (40, [(0, .inr (.inr (x0))), (1, .inr (.inl (x1))), (3, .inl (x3))], [.inl ((lg_cmp (σ.2 (RH x0 39) x3.toNatClampNeg) (x1 + (1 : Int64))))], hp σ, 0, 0)) 4 rfl ?_
      refine T_if_eq 54 rfl rfl (fun _ => ?_) (fun _ => ?_)
      · refine T_loc (ls' := [(0, .inr (.inr (x0))), (1, .inr (.inl (x1))), (3, .inl (x3))]) [0, 1, 2] rfl ?_
        exact s_X12_piles_54 x0 x1 x3 σ
      · refine T_go (S' := (49, [(0, .inr (.inr (x0))), (1, .inr (.inl (x1))), (3, .inl (x3))], [.inl ((8192 : Int32)), .inl ((x3 + (1 : Int32)))], hp σ, 0, 0)) 4 rfl ?_
        refine T_irem rfl (fun _ => ?_)
        refine T_go (S' := (51, [(3, .inl (((x3 + (1 : Int32)) - (x3 + (1 : Int32)) / (8192 : Int32) * (8192 : Int32)))), (0, .inr (.inr (x0))), (1, .inr (.inl (x1)))], [], hp σ, 0, 0)) 1 rfl ?_
        refine T_let (Sf := fun v1 => (51, [(3, .inl (v1)), (0, .inr (.inr (x0))), (1, .inr (.inl (x1)))], [], hp σ, 0, 0)) (fun v1 => ?_)
        refine T_go (S' := (19, [(3, .inl (v1)), (0, .inr (.inr (x0))), (1, .inr (.inl (x1)))], [], hp σ, 0, 0)) 1 rfl ?_
        refine T_loc (ls' := [(0, .inr (.inr (x0))), (1, .inr (.inl (x1))), (3, .inl (v1))]) [1, 2, 0] rfl ?_
        exact ih x0 x1 v1 σ
def f_X12_piles (x0 : Nat) (x1 : Int64) (σ : eMem) : Option (Unit × eMem) :=
  eLet ((((((x1 ^^^ ((x1.toUInt64 >>> ((31 : Int32).toInt64.toUInt64 &&& Int64.toUInt64 63)).toInt64)) * (2654435761 : Int64)).toUInt64 >>> ((20 : Int32).toInt64.toUInt64 &&& Int64.toUInt64 63)).toInt64) &&& (8191 : Int64)).toInt32 : Int32) (fun v1 =>
    f_X12_piles_19 1000000 x0 x1 v1 σ
    )
set_option maxHeartbeats 4000000 in
set_option maxRecDepth 20000 in
theorem s_X12_piles (x0 : Nat) (x1 : Int64) (σ : eMem) : ∀ r, f_X12_piles x0 x1 σ = some r → Ew false 1 194 [.inr (.inr (x0)), .inr (.inl (x1))] (hp σ) (cN iU r) := by
  refine T_meth (md := m_X12_piles) (d0 := 0) (cv := (cN iU)) rfl (lb rfl) (lb rfl) ?_
  unfold f_X12_piles
  show Snd false none _ _ _ _ (0, [(0, .inr (.inr (x0))), (1, .inr (.inl (x1)))], [], hp σ, 0, 0)
  refine T_go (S' := (19, [(3, .inl ((((((x1 ^^^ ((x1.toUInt64 >>> ((31 : Int32).toInt64.toUInt64 &&& Int64.toUInt64 63)).toInt64)) * (2654435761 : Int64)).toUInt64 >>> ((20 : Int32).toInt64.toUInt64 &&& Int64.toUInt64 63)).toInt64) &&& (8191 : Int64)).toInt32)), (0, .inr (.inr (x0))), (1, .inr (.inl (x1)))], [], hp σ, 0, 0)) 13 rfl ?_
  refine T_let (Sf := fun v1 => (19, [(3, .inl (v1)), (0, .inr (.inr (x0))), (1, .inr (.inl (x1)))], [], hp σ, 0, 0)) (fun v1 => ?_)
  refine T_loc (ls' := [(0, .inr (.inr (x0))), (1, .inr (.inl (x1))), (3, .inl (v1))]) [1, 2, 0] rfl ?_
  exact s_X12_piles_19 1000000 x0 x1 v1 σ
def f_X12_comesOut_100 : Nat → Nat → Int32 → Int32 → Int32 → eMem → Option (Unit × eMem)
  | 0, _, _, _, _, _ => none
  | n + 1, x0, x3, x5, x6, σ =>
    if x6 ≤ x5 then
      if (KH x0).1 = 10 then
        if (KH (RH x0 41)).1 = 11 ∧ eix x5 (KH (RH x0 41)).2 = true then eLet ((eup σ.1 (RH x0 41) x5.toNatClampNeg x3, σ.2) : eMem) (fun σ1 =>
          if (KH x0).1 = 10 then
            if (KH x0).1 = 10 then eLet ((eup σ1.1 x0 42 ((σ1.1 x0 42) + (1 : Int32)), σ1.2) : eMem) (fun σ2 =>
              some ((), σ2)
              ) else none
          else none
          ) else none
      else none
    else
      if (KH x0).1 = 10 then
        if (KH x0).1 = 10 then
          if (KH (RH x0 41)).1 = 11 ∧ eix (x6 - (1 : Int32)) (KH (RH x0 41)).2 = true then
            if (KH (RH x0 41)).1 = 11 ∧ eix x6 (KH (RH x0 41)).2 = true then eLet ((eup σ.1 (RH x0 41) x6.toNatClampNeg (σ.1 (RH x0 41) (x6 - (1 : Int32)).toNatClampNeg), σ.2) : eMem) (fun σ3 =>
              f_X12_comesOut_100 n x0 x3 x5 (x6 + (-1 : Int32)) σ3
              ) else none
          else none
        else none
      else none
set_option maxHeartbeats 4000000 in
set_option maxRecDepth 20000 in
theorem s_X12_comesOut_100 : ∀ (n : Nat) (x0 : Nat) (x3 : Int32) (x5 : Int32) (x6 : Int32) (σ : eMem), Snd false none 1 m_X12_comesOut (f_X12_comesOut_100 n x0 x3 x5 x6 σ) (cN iU) (100, [(0, .inr (.inr (x0))), (3, .inl (x3)), (5, .inl (x5)), (6, .inl (x6))], [], hp σ, 0, 0) := by
  intro n
  induction n with
  | zero => exact fun _ _ _ _ _ => T_none
  | succ n ih =>
    intro x0 x3 x5 x6 σ
    unfold f_X12_comesOut_100
    refine T_go (S' := (104, [(0, .inr (.inr (x0))), (3, .inl (x3)), (5, .inl (x5)), (6, .inl (x6))], [.inl (x5), .inl (x6)], hp σ, 0, 0)) 2 rfl ?_
    refine T_icmp_le 129 rfl rfl (fun _ => ?_) (fun _ => ?_)
    · refine T_go (S' := (130, [(0, .inr (.inr (x0))), (3, .inl (x3)), (5, .inl (x5)), (6, .inl (x6))], [.inr (.inr (x0))], hp σ, 0, 0)) 1 rfl ?_
      refine T_getR rfl (fun _ => ?_)
      refine T_go (S' := (136, [(0, .inr (.inr (x0))), (3, .inl (x3)), (5, .inl (x5)), (6, .inl (x6))], [.inl (x3), .inl (x5), .inr (.inr ((RH x0 41)))], hp σ, 0, 0)) 2 rfl ?_
      refine T_iast rfl (fun _ => ?_)
      refine T_let (Sf := fun σ1 => (137, [(0, .inr (.inr (x0))), (3, .inl (x3)), (5, .inl (x5)), (6, .inl (x6))], [], hp σ1, 0, 0)) (fun σ1 => ?_)
      refine T_go (S' := (139, [(0, .inr (.inr (x0))), (3, .inl (x3)), (5, .inl (x5)), (6, .inl (x6))], [.inr (.inr (x0)), .inr (.inr (x0))], hp σ1, 0, 0)) 2 rfl ?_
      refine T_getI rfl (fun _ => ?_)
      refine T_go (S' := (144, [(0, .inr (.inr (x0))), (3, .inl (x3)), (5, .inl (x5)), (6, .inl (x6))], [.inl (((σ1.1 x0 42) + (1 : Int32))), .inr (.inr (x0))], hp σ1, 0, 0)) 2 rfl ?_
      refine T_putI rfl (fun _ => ?_)
      refine T_let (Sf := fun σ2 => (147, [(0, .inr (.inr (x0))), (3, .inl (x3)), (5, .inl (x5)), (6, .inl (x6))], [], hp σ2, 0, 0)) (fun σ2 => ?_)
      exact T_ret rfl
    · refine T_go (S' := (108, [(0, .inr (.inr (x0))), (3, .inl (x3)), (5, .inl (x5)), (6, .inl (x6))], [.inr (.inr (x0))], hp σ, 0, 0)) 1 rfl ?_
      refine T_getR rfl (fun _ => ?_)
      refine T_go (S' := (114, [(0, .inr (.inr (x0))), (3, .inl (x3)), (5, .inl (x5)), (6, .inl (x6))], [.inr (.inr (x0)), .inl (x6), .inr (.inr ((RH x0 41)))], hp σ, 0, 0)) 2 rfl ?_
      refine T_getR rfl (fun _ => ?_)
      refine T_go (S' := (121, [(0, .inr (.inr (x0))), (3, .inl (x3)), (5, .inl (x5)), (6, .inl (x6))], [.inl ((x6 - (1 : Int32))), .inr (.inr ((RH x0 41))), .inl (x6), .inr (.inr ((RH x0 41)))], hp σ, 0, 0)) 3 rfl ?_
      refine T_iald rfl (fun _ => ?_)
      refine T_iast rfl (fun _ => ?_)
      refine T_let (Sf := fun σ3 => (123, [(0, .inr (.inr (x0))), (3, .inl (x3)), (5, .inl (x5)), (6, .inl (x6))], [], hp σ3, 0, 0)) (fun σ3 => ?_)
      refine T_go (S' := (100, [(6, .inl ((x6 + (-1 : Int32)))), (0, .inr (.inr (x0))), (3, .inl (x3)), (5, .inl (x5))], [], hp σ3, 0, 0)) 2 rfl ?_
      refine T_loc (ls' := [(0, .inr (.inr (x0))), (3, .inl (x3)), (5, .inl (x5)), (6, .inl ((x6 + (-1 : Int32))))]) [1, 2, 3, 0] rfl ?_
      exact ih x0 x3 x5 (x6 + (-1 : Int32)) σ3
def f_X12_comesOut_94 (x0 : Nat) (x3 : Int32) (x5 : Int32) (σ : eMem) : Option (Unit × eMem) :=
  if (KH x0).1 = 10 then
    eLet ((σ.1 x0 42) : Int32) (fun v1 =>
      f_X12_comesOut_100 1000000 x0 x3 x5 v1 σ
      )
  else none
set_option maxHeartbeats 4000000 in
set_option maxRecDepth 20000 in
theorem s_X12_comesOut_94 (x0 : Nat) (x3 : Int32) (x5 : Int32) (σ : eMem) : Snd false none 1 m_X12_comesOut (f_X12_comesOut_94 x0 x3 x5 σ) (cN iU) (94, [(0, .inr (.inr (x0))), (3, .inl (x3)), (5, .inl (x5))], [], hp σ, 0, 0) := by
  unfold f_X12_comesOut_94
  refine T_go (S' := (95, [(0, .inr (.inr (x0))), (3, .inl (x3)), (5, .inl (x5))], [.inr (.inr (x0))], hp σ, 0, 0)) 1 rfl ?_
  refine T_getI rfl (fun _ => ?_)
  refine T_go (S' := (100, [(6, .inl ((σ.1 x0 42))), (0, .inr (.inr (x0))), (3, .inl (x3)), (5, .inl (x5))], [], hp σ, 0, 0)) 1 rfl ?_
  refine T_let (Sf := fun v1 => (100, [(6, .inl (v1)), (0, .inr (.inr (x0))), (3, .inl (x3)), (5, .inl (x5))], [], hp σ, 0, 0)) (fun v1 => ?_)
  refine T_loc (ls' := [(0, .inr (.inr (x0))), (3, .inl (x3)), (5, .inl (x5)), (6, .inl (v1))]) [1, 2, 3, 0] rfl ?_
  exact s_X12_comesOut_100 1000000 x0 x3 x5 v1 σ
def f_X12_comesOut_73 (x0 : Nat) (x3 : Int32) (x5 : Int32) (σ : eMem) : Option (Unit × eMem) :=
  if (KH x0).1 = 10 then
    if (σ.1 x0 42) ≤ x5 then
      f_X12_comesOut_94 x0 x3 x5 σ
    else
      if (KH x0).1 = 10 then
        if (KH (RH x0 41)).1 = 11 ∧ eix x5 (KH (RH x0 41)).2 = true then
          if ¬ (σ.1 (RH x0 41) x5.toNatClampNeg) = x3 then
            f_X12_comesOut_94 x0 x3 x5 σ
          else
            some ((), σ)
        else none
      else none
  else none
set_option maxHeartbeats 4000000 in
set_option maxRecDepth 20000 in
theorem s_X12_comesOut_73 (x0 : Nat) (x3 : Int32) (x5 : Int32) (σ : eMem) : Snd false none 1 m_X12_comesOut (f_X12_comesOut_73 x0 x3 x5 σ) (cN iU) (73, [(0, .inr (.inr (x0))), (3, .inl (x3)), (5, .inl (x5))], [], hp σ, 0, 0) := by
  unfold f_X12_comesOut_73
  refine T_go (S' := (76, [(0, .inr (.inr (x0))), (3, .inl (x3)), (5, .inl (x5))], [.inr (.inr (x0)), .inl (x5)], hp σ, 0, 0)) 2 rfl ?_
  refine T_getI rfl (fun _ => ?_)
  refine T_icmp_ge 94 rfl rfl (fun _ => ?_) (fun _ => ?_)
  · refine T_loc (ls' := [(0, .inr (.inr (x0))), (3, .inl (x3)), (5, .inl (x5))]) [0, 1, 2] rfl ?_
    exact s_X12_comesOut_94 x0 x3 x5 σ
  · refine T_go (S' := (83, [(0, .inr (.inr (x0))), (3, .inl (x3)), (5, .inl (x5))], [.inr (.inr (x0))], hp σ, 0, 0)) 1 rfl ?_
    refine T_getR rfl (fun _ => ?_)
    refine T_go (S' := (88, [(0, .inr (.inr (x0))), (3, .inl (x3)), (5, .inl (x5))], [.inl (x5), .inr (.inr ((RH x0 41)))], hp σ, 0, 0)) 1 rfl ?_
    refine T_iald rfl (fun _ => ?_)
    refine T_go (S' := (90, [(0, .inr (.inr (x0))), (3, .inl (x3)), (5, .inl (x5))], [.inl (x3), .inl ((σ.1 (RH x0 41) x5.toNatClampNeg))], hp σ, 0, 0)) 1 rfl ?_
    refine T_icmp_ne 94 rfl rfl (fun _ => ?_) (fun _ => ?_)
    · refine T_loc (ls' := [(0, .inr (.inr (x0))), (3, .inl (x3)), (5, .inl (x5))]) [0, 1, 2] rfl ?_
      exact s_X12_comesOut_94 x0 x3 x5 σ
    · exact T_ret rfl
def f_X12_comesOut_47 : Nat → Nat → Int32 → Int32 → eMem → Option (Unit × eMem)
  | 0, _, _, _, _ => none
  | n + 1, x0, x3, x5, σ =>
    if (KH x0).1 = 10 then
      if (σ.1 x0 42) ≤ x5 then
        f_X12_comesOut_73 x0 x3 x5 σ
      else
        if (KH x0).1 = 10 then
          if (KH (RH x0 41)).1 = 11 ∧ eix x5 (KH (RH x0 41)).2 = true then
            if x3 ≤ (σ.1 (RH x0 41) x5.toNatClampNeg) then
              f_X12_comesOut_73 x0 x3 x5 σ
            else
              f_X12_comesOut_47 n x0 x3 (x5 + (1 : Int32)) σ
          else none
        else none
    else none
set_option maxHeartbeats 4000000 in
set_option maxRecDepth 20000 in
theorem s_X12_comesOut_47 : ∀ (n : Nat) (x0 : Nat) (x3 : Int32) (x5 : Int32) (σ : eMem), Snd false none 1 m_X12_comesOut (f_X12_comesOut_47 n x0 x3 x5 σ) (cN iU) (47, [(0, .inr (.inr (x0))), (3, .inl (x3)), (5, .inl (x5))], [], hp σ, 0, 0) := by
  intro n
  induction n with
  | zero => exact fun _ _ _ _ => T_none
  | succ n ih =>
    intro x0 x3 x5 σ
    unfold f_X12_comesOut_47
    refine T_go (S' := (50, [(0, .inr (.inr (x0))), (3, .inl (x3)), (5, .inl (x5))], [.inr (.inr (x0)), .inl (x5)], hp σ, 0, 0)) 2 rfl ?_
    refine T_getI rfl (fun _ => ?_)
    refine T_icmp_ge 73 rfl rfl (fun _ => ?_) (fun _ => ?_)
    · refine T_loc (ls' := [(0, .inr (.inr (x0))), (3, .inl (x3)), (5, .inl (x5))]) [0, 1, 2] rfl ?_
      exact s_X12_comesOut_73 x0 x3 x5 σ
    · refine T_go (S' := (57, [(0, .inr (.inr (x0))), (3, .inl (x3)), (5, .inl (x5))], [.inr (.inr (x0))], hp σ, 0, 0)) 1 rfl ?_
      refine T_getR rfl (fun _ => ?_)
      refine T_go (S' := (62, [(0, .inr (.inr (x0))), (3, .inl (x3)), (5, .inl (x5))], [.inl (x5), .inr (.inr ((RH x0 41)))], hp σ, 0, 0)) 1 rfl ?_
      refine T_iald rfl (fun _ => ?_)
      refine T_go (S' := (64, [(0, .inr (.inr (x0))), (3, .inl (x3)), (5, .inl (x5))], [.inl (x3), .inl ((σ.1 (RH x0 41) x5.toNatClampNeg))], hp σ, 0, 0)) 1 rfl ?_
      refine T_icmp_ge 73 rfl rfl (fun _ => ?_) (fun _ => ?_)
      · refine T_loc (ls' := [(0, .inr (.inr (x0))), (3, .inl (x3)), (5, .inl (x5))]) [0, 1, 2] rfl ?_
        exact s_X12_comesOut_73 x0 x3 x5 σ
      · refine T_go (S' := (47, [(5, .inl ((x5 + (1 : Int32)))), (0, .inr (.inr (x0))), (3, .inl (x3))], [], hp σ, 0, 0)) 2 rfl ?_
        refine T_loc (ls' := [(0, .inr (.inr (x0))), (3, .inl (x3)), (5, .inl ((x5 + (1 : Int32))))]) [1, 2, 0] rfl ?_
        exact ih x0 x3 (x5 + (1 : Int32)) σ
def f_X12_comesOut_15 : Nat → Nat → Int64 → Int32 → Int32 → eMem → Option (Unit × eMem)
  | 0, _, _, _, _, _ => none
  | n + 1, x0, x1, x3, x5, σ =>
    if x5 < (0 : Int32) then
      f_X12_comesOut_47 1000000 x0 x3 (0 : Int32) σ
    else
      Option.bind (f_X12_part x1 ((30 : Int32) + ((4 : Int32) * x5)) (4 : Int32) σ) (fun r1 =>
        eLet ((((10 : Int32) * x3) + r1.1) : Int32) (fun v2 =>
          f_X12_comesOut_15 n x0 x1 v2 (x5 + (-1 : Int32)) r1.2
          )
        )
set_option maxHeartbeats 4000000 in
set_option maxRecDepth 20000 in
theorem s_X12_comesOut_15 : ∀ (n : Nat) (x0 : Nat) (x1 : Int64) (x3 : Int32) (x5 : Int32) (σ : eMem), Snd false none 1 m_X12_comesOut (f_X12_comesOut_15 n x0 x1 x3 x5 σ) (cN iU) (15, [(0, .inr (.inr (x0))), (1, .inr (.inl (x1))), (3, .inl (x3)), (5, .inl (x5))], [], hp σ, 0, 0) := by
  intro n
  induction n with
  | zero => exact fun _ _ _ _ _ => T_none
  | succ n ih =>
    intro x0 x1 x3 x5 σ
    unfold f_X12_comesOut_15
    refine T_go (S' := (17, [(0, .inr (.inr (x0))), (1, .inr (.inl (x1))), (3, .inl (x3)), (5, .inl (x5))], [.inl (x5)], hp σ, 0, 0)) 1 rfl ?_
    refine T_if_lt 44 rfl rfl (fun _ => ?_) (fun _ => ?_)
    · refine T_go (S' := (47, [(5, .inl ((0 : Int32))), (0, .inr (.inr (x0))), (1, .inr (.inl (x1))), (3, .inl (x3))], [], hp σ, 0, 0)) 2 rfl ?_
      refine T_loc (ls' := [(0, .inr (.inr (x0))), (3, .inl (x3)), (5, .inl ((0 : Int32)))]) [1, 3, 0] rfl ?_
      exact s_X12_comesOut_47 1000000 x0 x3 (0 : Int32) σ
    · refine T_go (S' := (33, [(0, .inr (.inr (x0))), (1, .inr (.inl (x1))), (3, .inl (x3)), (5, .inl (x5))], [.inl ((4 : Int32)), .inl (((30 : Int32) + ((4 : Int32) * x5))), .inr (.inl (x1)), .inl (((10 : Int32) * x3))], hp σ, 0, 0)) 10 rfl ?_
      refine T_cs (i := iI) (as := [.inr (.inl (x1)), .inl (((30 : Int32) + ((4 : Int32) * x5))), .inl ((4 : Int32))]) (rest := [.inl (((10 : Int32) * x3))]) (st := [.inl ((4 : Int32)), .inl (((30 : Int32) + ((4 : Int32) * x5))), .inr (.inl (x1)), .inl (((10 : Int32) * x3))]) rfl (lb rfl) rfl rfl ⟨lb rfl, lb rfl, lb rfl, lb rfl⟩ (fun _ h => Ew_le (lb rfl) (s_X12_part x1 ((30 : Int32) + ((4 : Int32) * x5)) (4 : Int32) σ _ h)) (fun r1 => ?_)
      show Snd false none _ _ _ (cN iU) (36, [(0, .inr (.inr (x0))), (1, .inr (.inl (x1))), (3, .inl (x3)), (5, .inl (x5))], [.inl (r1.1), .inl (((10 : Int32) * x3))], hp r1.2, 0, 0)
      refine T_go (S' := (38, [(3, .inl ((((10 : Int32) * x3) + r1.1))), (0, .inr (.inr (x0))), (1, .inr (.inl (x1))), (5, .inl (x5))], [], hp r1.2, 0, 0)) 2 rfl ?_
      refine T_let (Sf := fun v2 => (38, [(3, .inl (v2)), (0, .inr (.inr (x0))), (1, .inr (.inl (x1))), (5, .inl (x5))], [], hp r1.2, 0, 0)) (fun v2 => ?_)
      refine T_go (S' := (15, [(5, .inl ((x5 + (-1 : Int32)))), (3, .inl (v2)), (0, .inr (.inr (x0))), (1, .inr (.inl (x1)))], [], hp r1.2, 0, 0)) 2 rfl ?_
      refine T_loc (ls' := [(0, .inr (.inr (x0))), (1, .inr (.inl (x1))), (3, .inl (v2)), (5, .inl ((x5 + (-1 : Int32))))]) [2, 3, 1, 0] rfl ?_
      exact ih x0 x1 v2 (x5 + (-1 : Int32)) r1.2
def f_X12_comesOut (x0 : Nat) (x1 : Int64) (σ : eMem) : Option (Unit × eMem) :=
  if (KH x0).1 = 10 then
    Option.bind (f_X12_resultOf x0 (-1 : Int32) σ) (fun r1 =>
      eLet ((r1.1 - (1 : Int32)) : Int32) (fun v2 =>
        f_X12_comesOut_15 1000000 x0 x1 (0 : Int32) v2 r1.2
        )
      )
  else none
set_option maxHeartbeats 4000000 in
set_option maxRecDepth 20000 in
theorem s_X12_comesOut (x0 : Nat) (x1 : Int64) (σ : eMem) : ∀ r, f_X12_comesOut x0 x1 σ = some r → Ew false 2 195 [.inr (.inr (x0)), .inr (.inl (x1))] (hp σ) (cN iU r) := by
  refine T_meth (md := m_X12_comesOut) (d0 := 1) (cv := (cN iU)) rfl (lb rfl) (lb rfl) ?_
  unfold f_X12_comesOut
  show Snd false none _ _ _ _ (0, [(0, .inr (.inr (x0))), (1, .inr (.inl (x1)))], [], hp σ, 0, 0)
  refine T_go (S' := (4, [(3, .inl ((0 : Int32))), (0, .inr (.inr (x0))), (1, .inr (.inl (x1)))], [.inl ((-1 : Int32)), .inr (.inr (x0))], hp σ, 0, 0)) 4 rfl ?_
  refine T_cv (i := iI) (as := [.inr (.inr (x0)), .inl ((-1 : Int32))]) (rest := []) (st := [.inl ((-1 : Int32)), .inr (.inr (x0))]) rfl rfl rfl ⟨lb rfl, lb rfl, lb rfl, lb rfl⟩ (fun _ h => Ew_le (lb rfl) (s_X12_resultOf x0 (-1 : Int32) σ _ h)) (fun _ r1 => ?_)
  show Snd false none _ _ _ (cN iU) (7, [(3, .inl ((0 : Int32))), (0, .inr (.inr (x0))), (1, .inr (.inl (x1)))], [.inl (r1.1)], hp r1.2, 0, 0)
  refine T_go (S' := (15, [(5, .inl ((r1.1 - (1 : Int32)))), (4, .inl (r1.1)), (3, .inl ((0 : Int32))), (0, .inr (.inr (x0))), (1, .inr (.inl (x1)))], [], hp r1.2, 0, 0)) 5 rfl ?_
  refine T_let (Sf := fun v2 => (15, [(5, .inl (v2)), (4, .inl (r1.1)), (3, .inl ((0 : Int32))), (0, .inr (.inr (x0))), (1, .inr (.inl (x1)))], [], hp r1.2, 0, 0)) (fun v2 => ?_)
  refine T_loc (ls' := [(0, .inr (.inr (x0))), (1, .inr (.inl (x1))), (3, .inl ((0 : Int32))), (5, .inl (v2))]) [3, 4, 2, 0] rfl ?_
  exact s_X12_comesOut_15 1000000 x0 x1 (0 : Int32) v2 r1.2
