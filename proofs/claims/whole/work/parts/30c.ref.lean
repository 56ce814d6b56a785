/-! what the methods do -/
def f_X12_begins_50 (x1 : Int32) (x3 : Int32) (s0 : Nat) (s1 : Int32) (s2 : Int32) (s3 : Int32) (σ : eMem) : Option (Unit × eMem) :=
  if (KH s0).1 = 10 then
    Option.bind (f_X12_sends s0 s1 s2 s3 x3 x1 (0 : Int32) σ) (fun r1 =>
      some ((), r1.2)
      )
  else none
set_option maxHeartbeats 4000000 in
set_option maxRecDepth 20000 in
theorem s_X12_begins_50 (x1 : Int32) (x3 : Int32) (s0 : Nat) (s1 : Int32) (s2 : Int32) (s3 : Int32) (σ : eMem) : Snd false none 1 m_X12_begins (f_X12_begins_50 x1 x3 s0 s1 s2 s3 σ) (cN iU) (50, [(1, .inl (x1)), (3, .inl (x3))], [.inl (s3), .inl (s2), .inl (s1), .inr (.inr (s0))], hp σ, 0, 0) := by
  unfold f_X12_begins_50
  refine T_go (S' := (53, [(1, .inl (x1)), (3, .inl (x3))], [.inl ((0 : Int32)), .inl (x1), .inl (x3), .inl (s3), .inl (s2), .inl (s1), .inr (.inr (s0))], hp σ, 0, 0)) 3 rfl ?_
  refine T_cv (i := iU) (as := [.inr (.inr (s0)), .inl (s1), .inl (s2), .inl (s3), .inl (x3), .inl (x1), .inl ((0 : Int32))]) (rest := []) (st := [.inl ((0 : Int32)), .inl (x1), .inl (x3), .inl (s3), .inl (s2), .inl (s1), .inr (.inr (s0))]) rfl rfl rfl ⟨lb rfl, lb rfl, lb rfl, lb rfl⟩ (fun _ h => Ew_le (lb rfl) (s_X12_sends s0 s1 s2 s3 x3 x1 (0 : Int32) σ _ h)) (fun _ r1 => ?_)
  show Snd false none _ _ _ (cN iU) (56, [(1, .inl (x1)), (3, .inl (x3))], [], hp r1.2, 0, 0)
  exact T_ret rfl
def f_X12_begins_22 (x0 : Nat) (x1 : Int32) (x2 : Int32) (x3 : Int32) (x4 : Int32) (s0 : Nat) (s1 : Int32) (s2 : Int32) (σ : eMem) : Option (Unit × eMem) :=
  if (KH s0).1 = 11 ∧ eix s1 (KH s0).2 = true then eLet ((eup σ.1 s0 s1.toNatClampNeg s2, σ.2) : eMem) (fun σ1 =>
    if (KH x0).1 = 10 then
      if (KH (RH x0 16)).1 = 13 ∧ eix x2 (KH (RH x0 16)).2 = true ∧ eB (0 : Int32) = true then eLet ((eup σ1.1 (RH x0 16) x2.toNatClampNeg (0 : Int32), σ1.2) : eMem) (fun σ2 =>
        if (KH x0).1 = 10 then
          if (KH (RH x0 17)).1 = 11 ∧ eix x2 (KH (RH x0 17)).2 = true then eLet ((eup σ2.1 (RH x0 17) x2.toNatClampNeg (-1 : Int32), σ2.2) : eMem) (fun σ3 =>
            if x4 = (0 : Int32) then
              f_X12_begins_50 x1 x3 x0 (0 : Int32) (4 : Int32) (0 : Int32) σ3
            else
              f_X12_begins_50 x1 x3 x0 (0 : Int32) (4 : Int32) (1 : Int32) σ3
            ) else none
        else none
        ) else none
    else none
    ) else none
set_option maxHeartbeats 4000000 in
set_option maxRecDepth 20000 in
theorem s_X12_begins_22 (x0 : Nat) (x1 : Int32) (x2 : Int32) (x3 : Int32) (x4 : Int32) (s0 : Nat) (s1 : Int32) (s2 : Int32) (σ : eMem) : Snd false none 1 m_X12_begins (f_X12_begins_22 x0 x1 x2 x3 x4 s0 s1 s2 σ) (cN iU) (22, [(0, .inr (.inr (x0))), (1, .inl (x1)), (2, .inl (x2)), (3, .inl (x3)), (4, .inl (x4))], [.inl (s2), .inl (s1), .inr (.inr (s0))], hp σ, 0, 0) := by
  unfold f_X12_begins_22
  refine T_iast rfl (fun _ => ?_)
  refine T_let (Sf := fun σ1 => (23, [(0, .inr (.inr (x0))), (1, .inl (x1)), (2, .inl (x2)), (3, .inl (x3)), (4, .inl (x4))], [], hp σ1, 0, 0)) (fun σ1 => ?_)
  refine T_go (S' := (24, [(0, .inr (.inr (x0))), (1, .inl (x1)), (2, .inl (x2)), (3, .inl (x3)), (4, .inl (x4))], [.inr (.inr (x0))], hp σ1, 0, 0)) 1 rfl ?_
  refine T_getR rfl (fun _ => ?_)
  refine T_go (S' := (29, [(0, .inr (.inr (x0))), (1, .inl (x1)), (2, .inl (x2)), (3, .inl (x3)), (4, .inl (x4))], [.inl ((0 : Int32)), .inl (x2), .inr (.inr ((RH x0 16)))], hp σ1, 0, 0)) 2 rfl ?_
  refine T_bast rfl (fun _ => ?_)
  refine T_let (Sf := fun σ2 => (30, [(0, .inr (.inr (x0))), (1, .inl (x1)), (2, .inl (x2)), (3, .inl (x3)), (4, .inl (x4))], [], hp σ2, 0, 0)) (fun σ2 => ?_)
  refine T_go (S' := (31, [(0, .inr (.inr (x0))), (1, .inl (x1)), (2, .inl (x2)), (3, .inl (x3)), (4, .inl (x4))], [.inr (.inr (x0))], hp σ2, 0, 0)) 1 rfl ?_
  refine T_getR rfl (fun _ => ?_)
  refine T_go (S' := (36, [(0, .inr (.inr (x0))), (1, .inl (x1)), (2, .inl (x2)), (3, .inl (x3)), (4, .inl (x4))], [.inl ((-1 : Int32)), .inl (x2), .inr (.inr ((RH x0 17)))], hp σ2, 0, 0)) 2 rfl ?_
  refine T_iast rfl (fun _ => ?_)
  refine T_let (Sf := fun σ3 => (37, [(0, .inr (.inr (x0))), (1, .inl (x1)), (2, .inl (x2)), (3, .inl (x3)), (4, .inl (x4))], [], hp σ3, 0, 0)) (fun σ3 => ?_)
  refine T_go (S' := (42, [(0, .inr (.inr (x0))), (1, .inl (x1)), (2, .inl (x2)), (3, .inl (x3)), (4, .inl (x4))], [.inl (x4), .inl ((4 : Int32)), .inl ((0 : Int32)), .inr (.inr (x0))], hp σ3, 0, 0)) 4 rfl ?_
  refine T_if_eq 49 rfl rfl (fun _ => ?_) (fun _ => ?_)
  · refine T_go (S' := (50, [(0, .inr (.inr (x0))), (1, .inl (x1)), (2, .inl (x2)), (3, .inl (x3)), (4, .inl (x4))], [.inl ((0 : Int32)), .inl ((4 : Int32)), .inl ((0 : Int32)), .inr (.inr (x0))], hp σ3, 0, 0)) 1 rfl ?_
    refine T_loc (ls' := [(1, .inl (x1)), (3, .inl (x3))]) [1, 3] rfl ?_
    exact s_X12_begins_50 x1 x3 x0 (0 : Int32) (4 : Int32) (0 : Int32) σ3
  · refine T_go (S' := (50, [(0, .inr (.inr (x0))), (1, .inl (x1)), (2, .inl (x2)), (3, .inl (x3)), (4, .inl (x4))], [.inl ((1 : Int32)), .inl ((4 : Int32)), .inl ((0 : Int32)), .inr (.inr (x0))], hp σ3, 0, 0)) 2 rfl ?_
    refine T_loc (ls' := [(1, .inl (x1)), (3, .inl (x3))]) [1, 3] rfl ?_
    exact s_X12_begins_50 x1 x3 x0 (0 : Int32) (4 : Int32) (1 : Int32) σ3
def f_X12_begins (x0 : Nat) (x1 : Int32) (x2 : Int32) (x3 : Int32) (x4 : Int32) (σ : eMem) : Option (Unit × eMem) :=
  if (KH x0).1 = 10 then
    if (KH (RH x0 12)).1 = 11 ∧ eix x2 (KH (RH x0 12)).2 = true then eLet ((eup σ.1 (RH x0 12) x2.toNatClampNeg x3, σ.2) : eMem) (fun σ1 =>
      if (KH x0).1 = 10 then
        if x4 = (0 : Int32) then
          f_X12_begins_22 x0 x1 x2 x3 x4 (RH x0 13) x2 (4 : Int32) σ1
        else
          f_X12_begins_22 x0 x1 x2 x3 x4 (RH x0 13) x2 (5 : Int32) σ1
      else none
      ) else none
  else none
set_option maxHeartbeats 4000000 in
set_option maxRecDepth 20000 in
theorem s_X12_begins (x0 : Nat) (x1 : Int32) (x2 : Int32) (x3 : Int32) (x4 : Int32) (σ : eMem) : ∀ r, f_X12_begins x0 x1 x2 x3 x4 σ = some r → Ew false 2 155 [.inr (.inr (x0)), .inl (x1), .inl (x2), .inl (x3), .inl (x4)] (hp σ) (cN iU r) := by
  refine T_meth (md := m_X12_begins) (d0 := 1) (cv := (cN iU)) rfl (lb rfl) (lb rfl) ?_
  unfold f_X12_begins
  show Snd false none _ _ _ _ (0, [(0, .inr (.inr (x0))), (1, .inl (x1)), (2, .inl (x2)), (3, .inl (x3)), (4, .inl (x4))], [], hp σ, 0, 0)
  refine T_go (S' := (1, [(0, .inr (.inr (x0))), (1, .inl (x1)), (2, .inl (x2)), (3, .inl (x3)), (4, .inl (x4))], [.inr (.inr (x0))], hp σ, 0, 0)) 1 rfl ?_
  refine T_getR rfl (fun _ => ?_)
  refine T_go (S' := (6, [(0, .inr (.inr (x0))), (1, .inl (x1)), (2, .inl (x2)), (3, .inl (x3)), (4, .inl (x4))], [.inl (x3), .inl (x2), .inr (.inr ((RH x0 12)))], hp σ, 0, 0)) 2 rfl ?_
  refine T_iast rfl (fun _ => ?_)
  refine T_let (Sf := fun σ1 => (7, [(0, .inr (.inr (x0))), (1, .inl (x1)), (2, .inl (x2)), (3, .inl (x3)), (4, .inl (x4))], [], hp σ1, 0, 0)) (fun σ1 => ?_)
  refine T_go (S' := (8, [(0, .inr (.inr (x0))), (1, .inl (x1)), (2, .inl (x2)), (3, .inl (x3)), (4, .inl (x4))], [.inr (.inr (x0))], hp σ1, 0, 0)) 1 rfl ?_
  refine T_getR rfl (fun _ => ?_)
  refine T_go (S' := (14, [(0, .inr (.inr (x0))), (1, .inl (x1)), (2, .inl (x2)), (3, .inl (x3)), (4, .inl (x4))], [.inl (x4), .inl (x2), .inr (.inr ((RH x0 13)))], hp σ1, 0, 0)) 2 rfl ?_
  refine T_if_eq 21 rfl rfl (fun _ => ?_) (fun _ => ?_)
  · refine T_go (S' := (22, [(0, .inr (.inr (x0))), (1, .inl (x1)), (2, .inl (x2)), (3, .inl (x3)), (4, .inl (x4))], [.inl ((4 : Int32)), .inl (x2), .inr (.inr ((RH x0 13)))], hp σ1, 0, 0)) 1 rfl ?_
    refine T_loc (ls' := [(0, .inr (.inr (x0))), (1, .inl (x1)), (2, .inl (x2)), (3, .inl (x3)), (4, .inl (x4))]) [0, 1, 2, 3, 4] rfl ?_
    exact s_X12_begins_22 x0 x1 x2 x3 x4 (RH x0 13) x2 (4 : Int32) σ1
  · refine T_go (S' := (22, [(0, .inr (.inr (x0))), (1, .inl (x1)), (2, .inl (x2)), (3, .inl (x3)), (4, .inl (x4))], [.inl ((5 : Int32)), .inl (x2), .inr (.inr ((RH x0 13)))], hp σ1, 0, 0)) 2 rfl ?_
    refine T_loc (ls' := [(0, .inr (.inr (x0))), (1, .inl (x1)), (2, .inl (x2)), (3, .inl (x3)), (4, .inl (x4))]) [0, 1, 2, 3, 4] rfl ?_
    exact s_X12_begins_22 x0 x1 x2 x3 x4 (RH x0 13) x2 (5 : Int32) σ1
def f_X12_asksFor_44  (σ : eMem) : Option (Int32 × eMem) :=
  if eB (0 : Int32) = true then some ((0 : Int32), σ) else none
set_option maxHeartbeats 4000000 in
set_option maxRecDepth 20000 in
theorem s_X12_asksFor_44  (σ : eMem) : Snd false none 2 m_X12_asksFor (f_X12_asksFor_44 σ) (cN iI) (44, [], [], hp σ, 0, 0) := by
  unfold f_X12_asksFor_44
  refine T_go (S' := (45, [], [.inl ((0 : Int32))], hp σ, 0, 0)) 1 rfl ?_
  exact T_chkr rfl
def f_X12_asksFor_155 (s0 : Int32) (σ : eMem) : Option (Int32 × eMem) :=
  if eB s0 = true then some (s0, σ) else none
set_option maxHeartbeats 4000000 in
set_option maxRecDepth 20000 in
theorem s_X12_asksFor_155 (s0 : Int32) (σ : eMem) : Snd false none 2 m_X12_asksFor (f_X12_asksFor_155 s0 σ) (cN iI) (155, [], [.inl (s0)], hp σ, 0, 0) := by
  unfold f_X12_asksFor_155
  exact T_chkr rfl
def f_X12_asksFor_137 (x0 : Nat) (x1 : Int32) (x2 : Int32) (x3 : Int32) (x4 : Int32) (σ : eMem) : Option (Int32 × eMem) :=
  if (KH x0).1 = 10 then
    Option.bind (f_X12_begins x0 x1 x4 x2 x3 σ) (fun r1 =>
      if ¬ x3 = (0 : Int32) then
        f_X12_asksFor_155 (0 : Int32) r1.2
      else
        f_X12_asksFor_155 (1 : Int32) r1.2
      )
  else none
set_option maxHeartbeats 4000000 in
set_option maxRecDepth 20000 in
theorem s_X12_asksFor_137 (x0 : Nat) (x1 : Int32) (x2 : Int32) (x3 : Int32) (x4 : Int32) (σ : eMem) : Snd false none 2 m_X12_asksFor (f_X12_asksFor_137 x0 x1 x2 x3 x4 σ) (cN iI) (137, [(0, .inr (.inr (x0))), (1, .inl (x1)), (2, .inl (x2)), (3, .inl (x3)), (4, .inl (x4))], [], hp σ, 0, 0) := by
  unfold f_X12_asksFor_137
  refine T_go (S' := (143, [(0, .inr (.inr (x0))), (1, .inl (x1)), (2, .inl (x2)), (3, .inl (x3)), (4, .inl (x4))], [.inl (x3), .inl (x2), .inl (x4), .inl (x1), .inr (.inr (x0))], hp σ, 0, 0)) 5 rfl ?_
  refine T_cv (i := iU) (as := [.inr (.inr (x0)), .inl (x1), .inl (x4), .inl (x2), .inl (x3)]) (rest := []) (st := [.inl (x3), .inl (x2), .inl (x4), .inl (x1), .inr (.inr (x0))]) rfl rfl rfl ⟨lb rfl, lb rfl, lb rfl, lb rfl⟩ (fun _ h => Ew_le (lb rfl) (s_X12_begins x0 x1 x4 x2 x3 σ _ h)) (fun _ r1 => ?_)
  show Snd false none _ _ _ (cN iI) (146, [(0, .inr (.inr (x0))), (1, .inl (x1)), (2, .inl (x2)), (3, .inl (x3)), (4, .inl (x4))], [], hp r1.2, 0, 0)
  refine T_go (S' := (147, [(0, .inr (.inr (x0))), (1, .inl (x1)), (2, .inl (x2)), (3, .inl (x3)), (4, .inl (x4))], [.inl (x3)], hp r1.2, 0, 0)) 1 rfl ?_
  refine T_if_ne 154 rfl rfl (fun _ => ?_) (fun _ => ?_)
  · refine T_go (S' := (155, [(0, .inr (.inr (x0))), (1, .inl (x1)), (2, .inl (x2)), (3, .inl (x3)), (4, .inl (x4))], [.inl ((0 : Int32))], hp r1.2, 0, 0)) 1 rfl ?_
    refine T_loc (ls' := []) [] rfl ?_
    exact s_X12_asksFor_155 (0 : Int32) r1.2
  · refine T_go (S' := (155, [(0, .inr (.inr (x0))), (1, .inl (x1)), (2, .inl (x2)), (3, .inl (x3)), (4, .inl (x4))], [.inl ((1 : Int32))], hp r1.2, 0, 0)) 2 rfl ?_
    refine T_loc (ls' := []) [] rfl ?_
    exact s_X12_asksFor_155 (1 : Int32) r1.2
def f_X12_asksFor_59 (x0 : Nat) (x1 : Int32) (x2 : Int32) (x3 : Int32) (x4 : Int32) (σ : eMem) : Option (Int32 × eMem) :=
  if ¬ x4 = (-1 : Int32) then
    f_X12_asksFor_137 x0 x1 x2 x3 x4 σ
  else
    if (KH x0).1 = 10 then
      Option.bind (f_X12_victim x0 x1 σ) (fun r1 =>
        if ¬ r1.1 = (-1 : Int32) then
          if (KH x0).1 = 10 then
            if (KH (RH x0 13)).1 = 11 ∧ eix r1.1 (KH (RH x0 13)).2 = true then
              if (r1.2.1 (RH x0 13) r1.1.toNatClampNeg) = (1 : Int32) then
                f_X12_asksFor_137 x0 x1 x2 x3 r1.1 r1.2
              else
                if (KH x0).1 = 10 then
                  if (KH x0).1 = 10 then
                    if (KH (RH x0 12)).1 = 11 ∧ eix r1.1 (KH (RH x0 12)).2 = true then
                      if (KH x0).1 = 10 then
                        if (KH (RH x0 14)).1 = 11 ∧ eix r1.1 (KH (RH x0 14)).2 = true then
                          if (KH (RH x0 19)).1 = 11 ∧ eix (((16 : Int32) * x1) + (r1.2.1 (RH x0 12) r1.1.toNatClampNeg)) (KH (RH x0 19)).2 = true then eLet ((eup r1.2.1 (RH x0 19) (((16 : Int32) * x1) + (r1.2.1 (RH x0 12) r1.1.toNatClampNeg)).toNatClampNeg (r1.2.1 (RH x0 14) r1.1.toNatClampNeg), r1.2.2) : eMem) (fun σ2 =>
                            if (KH x0).1 = 10 then
                              if (KH (RH x0 12)).1 = 11 ∧ eix r1.1 (KH (RH x0 12)).2 = true then
                                if (KH x0).1 = 10 then
                                  if (KH (RH x0 14)).1 = 11 ∧ eix r1.1 (KH (RH x0 14)).2 = true then
                                    if (KH x0).1 = 10 then
                                      Option.bind (f_X12_sends x0 (0 : Int32) (4 : Int32) (2 : Int32) (σ2.1 (RH x0 12) r1.1.toNatClampNeg) x1 (σ2.1 (RH x0 14) r1.1.toNatClampNeg) σ2) (fun r3 =>
                                        f_X12_asksFor_137 x0 x1 x2 x3 r1.1 r3.2
                                        )
                                    else none
                                  else none
                                else none
                              else none
                            else none
                            ) else none
                        else none
                      else none
                    else none
                  else none
                else none
            else none
          else none
        else
          if eB (0 : Int32) = true then some ((0 : Int32), r1.2) else none
        )
    else none
set_option maxHeartbeats 4000000 in
set_option maxRecDepth 20000 in
theorem s_X12_asksFor_59 (x0 : Nat) (x1 : Int32) (x2 : Int32) (x3 : Int32) (x4 : Int32) (σ : eMem) : Snd false none 2 m_X12_asksFor (f_X12_asksFor_59 x0 x1 x2 x3 x4 σ) (cN iI) (59, [(0, .inr (.inr (x0))), (1, .inl (x1)), (2, .inl (x2)), (3, .inl (x3)), (4, .inl (x4))], [], hp σ, 0, 0) := by
  unfold f_X12_asksFor_59
  refine T_go (S' := (62, [(0, .inr (.inr (x0))), (1, .inl (x1)), (2, .inl (x2)), (3, .inl (x3)), (4, .inl (x4))], [.inl ((-1 : Int32)), .inl (x4)], hp σ, 0, 0)) 2 rfl ?_
  refine T_icmp_ne 137 rfl rfl (fun _ => ?_) (fun _ => ?_)
  · refine T_loc (ls' := [(0, .inr (.inr (x0))), (1, .inl (x1)), (2, .inl (x2)), (3, .inl (x3)), (4, .inl (x4))]) [0, 1, 2, 3, 4] rfl ?_
    exact s_X12_asksFor_137 x0 x1 x2 x3 x4 σ
  · refine T_go (S' := (67, [(0, .inr (.inr (x0))), (1, .inl (x1)), (2, .inl (x2)), (3, .inl (x3)), (4, .inl (x4))], [.inl (x1), .inr (.inr (x0))], hp σ, 0, 0)) 2 rfl ?_
    refine T_cv (i := iI) (as := [.inr (.inr (x0)), .inl (x1)]) (rest := []) (st := [.inl (x1), .inr (.inr (x0))]) rfl rfl rfl ⟨lb rfl, lb rfl, lb rfl, lb rfl⟩ (fun _ h => Ew_le (lb rfl) (s_X12_victim x0 x1 σ _ h)) (fun _ r1 => ?_)
    show Snd false none _ _ _ (cN iI) (70, [(0, .inr (.inr (x0))), (1, .inl (x1)), (2, .inl (x2)), (3, .inl (x3)), (4, .inl (x4))], [.inl (r1.1)], hp r1.2, 0, 0)
    refine T_go (S' := (75, [(4, .inl (r1.1)), (0, .inr (.inr (x0))), (1, .inl (x1)), (2, .inl (x2)), (3, .inl (x3))], [.inl ((-1 : Int32)), .inl (r1.1)], hp r1.2, 0, 0)) 3 rfl ?_
    refine T_icmp_ne 80 rfl rfl (fun _ => ?_) (fun _ => ?_)
    · refine T_go (S' := (81, [(4, .inl (r1.1)), (0, .inr (.inr (x0))), (1, .inl (x1)), (2, .inl (x2)), (3, .inl (x3))], [.inr (.inr (x0))], hp r1.2, 0, 0)) 1 rfl ?_
      refine T_getR rfl (fun _ => ?_)
      refine T_go (S' := (86, [(4, .inl (r1.1)), (0, .inr (.inr (x0))), (1, .inl (x1)), (2, .inl (x2)), (3, .inl (x3))], [.inl (r1.1), .inr (.inr ((RH x0 13)))], hp r1.2, 0, 0)) 1 rfl ?_
      refine T_iald rfl (fun _ => ?_)
      refine T_go (S' := (88, [(4, .inl (r1.1)), (0, .inr (.inr (x0))), (1, .inl (x1)), (2, .inl (x2)), (3, .inl (x3))], [.inl ((1 : Int32)), .inl ((r1.2.1 (RH x0 13) r1.1.toNatClampNeg))], hp r1.2, 0, 0)) 1 rfl ?_
      refine T_icmp_eq 137 rfl rfl (fun _ => ?_) (fun _ => ?_)
      · refine T_loc (ls' := [(0, .inr (.inr (x0))), (1, .inl (x1)), (2, .inl (x2)), (3, .inl (x3)), (4, .inl (r1.1))]) [1, 2, 3, 4, 0] rfl ?_
        exact s_X12_asksFor_137 x0 x1 x2 x3 r1.1 r1.2
      · refine T_go (S' := (92, [(4, .inl (r1.1)), (0, .inr (.inr (x0))), (1, .inl (x1)), (2, .inl (x2)), (3, .inl (x3))], [.inr (.inr (x0))], hp r1.2, 0, 0)) 1 rfl ?_
        refine T_getR rfl (fun _ => ?_)
        refine T_go (S' := (100, [(4, .inl (r1.1)), (0, .inr (.inr (x0))), (1, .inl (x1)), (2, .inl (x2)), (3, .inl (x3))], [.inr (.inr (x0)), .inl (((16 : Int32) * x1)), .inr (.inr ((RH x0 19)))], hp r1.2, 0, 0)) 4 rfl ?_
        refine T_getR rfl (fun _ => ?_)
        refine T_go (S' := (105, [(4, .inl (r1.1)), (0, .inr (.inr (x0))), (1, .inl (x1)), (2, .inl (x2)), (3, .inl (x3))], [.inl (r1.1), .inr (.inr ((RH x0 12))), .inl (((16 : Int32) * x1)), .inr (.inr ((RH x0 19)))], hp r1.2, 0, 0)) 1 rfl ?_
        refine T_iald rfl (fun _ => ?_)
        refine T_go (S' := (108, [(4, .inl (r1.1)), (0, .inr (.inr (x0))), (1, .inl (x1)), (2, .inl (x2)), (3, .inl (x3))], [.inr (.inr (x0)), .inl ((((16 : Int32) * x1) + (r1.2.1 (RH x0 12) r1.1.toNatClampNeg))), .inr (.inr ((RH x0 19)))], hp r1.2, 0, 0)) 2 rfl ?_
        refine T_getR rfl (fun _ => ?_)
        refine T_go (S' := (113, [(4, .inl (r1.1)), (0, .inr (.inr (x0))), (1, .inl (x1)), (2, .inl (x2)), (3, .inl (x3))], [.inl (r1.1), .inr (.inr ((RH x0 14))), .inl ((((16 : Int32) * x1) + (r1.2.1 (RH x0 12) r1.1.toNatClampNeg))), .inr (.inr ((RH x0 19)))], hp r1.2, 0, 0)) 1 rfl ?_
        refine T_iald rfl (fun _ => ?_)
        refine T_iast rfl (fun _ => ?_)
        refine T_let (Sf := fun σ2 => (115, [(4, .inl (r1.1)), (0, .inr (.inr (x0))), (1, .inl (x1)), (2, .inl (x2)), (3, .inl (x3))], [], hp σ2, 0, 0)) (fun σ2 => ?_)
        refine T_go (S' := (120, [(4, .inl (r1.1)), (0, .inr (.inr (x0))), (1, .inl (x1)), (2, .inl (x2)), (3, .inl (x3))], [.inr (.inr (x0)), .inl ((2 : Int32)), .inl ((4 : Int32)), .inl ((0 : Int32)), .inr (.inr (x0))], hp σ2, 0, 0)) 5 rfl ?_
        refine T_getR rfl (fun _ => ?_)
        refine T_go (S' := (125, [(4, .inl (r1.1)), (0, .inr (.inr (x0))), (1, .inl (x1)), (2, .inl (x2)), (3, .inl (x3))], [.inl (r1.1), .inr (.inr ((RH x0 12))), .inl ((2 : Int32)), .inl ((4 : Int32)), .inl ((0 : Int32)), .inr (.inr (x0))], hp σ2, 0, 0)) 1 rfl ?_
        refine T_iald rfl (fun _ => ?_)
        refine T_go (S' := (128, [(4, .inl (r1.1)), (0, .inr (.inr (x0))), (1, .inl (x1)), (2, .inl (x2)), (3, .inl (x3))], [.inr (.inr (x0)), .inl (x1), .inl ((σ2.1 (RH x0 12) r1.1.toNatClampNeg)), .inl ((2 : Int32)), .inl ((4 : Int32)), .inl ((0 : Int32)), .inr (.inr (x0))], hp σ2, 0, 0)) 2 rfl ?_
        refine T_getR rfl (fun _ => ?_)
        refine T_go (S' := (133, [(4, .inl (r1.1)), (0, .inr (.inr (x0))), (1, .inl (x1)), (2, .inl (x2)), (3, .inl (x3))], [.inl (r1.1), .inr (.inr ((RH x0 14))), .inl (x1), .inl ((σ2.1 (RH x0 12) r1.1.toNatClampNeg)), .inl ((2 : Int32)), .inl ((4 : Int32)), .inl ((0 : Int32)), .inr (.inr (x0))], hp σ2, 0, 0)) 1 rfl ?_
        refine T_iald rfl (fun _ => ?_)
        refine T_cv (i := iU) (as := [.inr (.inr (x0)), .inl ((0 : Int32)), .inl ((4 : Int32)), .inl ((2 : Int32)), .inl ((σ2.1 (RH x0 12) r1.1.toNatClampNeg)), .inl (x1), .inl ((σ2.1 (RH x0 14) r1.1.toNatClampNeg))]) (rest := []) (st := [.inl ((σ2.1 (RH x0 14) r1.1.toNatClampNeg)), .inl (x1), .inl ((σ2.1 (RH x0 12) r1.1.toNatClampNeg)), .inl ((2 : Int32)), .inl ((4 : Int32)), .inl ((0 : Int32)), .inr (.inr (x0))]) rfl rfl rfl ⟨lb rfl, lb rfl, lb rfl, lb rfl⟩ (fun _ h => Ew_le (lb rfl) (s_X12_sends x0 (0 : Int32) (4 : Int32) (2 : Int32) (σ2.1 (RH x0 12) r1.1.toNatClampNeg) x1 (σ2.1 (RH x0 14) r1.1.toNatClampNeg) σ2 _ h)) (fun _ r3 => ?_)
        show Snd false none _ _ _ (cN iI) (137, [(4, .inl (r1.1)), (0, .inr (.inr (x0))), (1, .inl (x1)), (2, .inl (x2)), (3, .inl (x3))], [], hp r3.2, 0, 0)
        refine T_loc (ls' := [(0, .inr (.inr (x0))), (1, .inl (x1)), (2, .inl (x2)), (3, .inl (x3)), (4, .inl (r1.1))]) [1, 2, 3, 4, 0] rfl ?_
        exact s_X12_asksFor_137 x0 x1 x2 x3 r1.1 r3.2
    · refine T_go (S' := (79, [(4, .inl (r1.1)), (0, .inr (.inr (x0))), (1, .inl (x1)), (2, .inl (x2)), (3, .inl (x3))], [.inl ((0 : Int32))], hp r1.2, 0, 0)) 1 rfl ?_
      exact T_chkr rfl
def f_X12_asksFor_46 (x0 : Nat) (x1 : Int32) (x2 : Int32) (x3 : Int32) (x4 : Int32) (σ : eMem) : Option (Int32 × eMem) :=
  if ¬ x4 = (-1 : Int32) then
    f_X12_asksFor_59 x0 x1 x2 x3 x4 σ
  else
    if (KH x0).1 = 10 then
      Option.bind (f_X12_emptyPlace x0 x1 σ) (fun r1 =>
        f_X12_asksFor_59 x0 x1 x2 x3 r1.1 r1.2
        )
    else none
set_option maxHeartbeats 4000000 in
set_option maxRecDepth 20000 in
theorem s_X12_asksFor_46 (x0 : Nat) (x1 : Int32) (x2 : Int32) (x3 : Int32) (x4 : Int32) (σ : eMem) : Snd false none 2 m_X12_asksFor (f_X12_asksFor_46 x0 x1 x2 x3 x4 σ) (cN iI) (46, [(0, .inr (.inr (x0))), (1, .inl (x1)), (2, .inl (x2)), (3, .inl (x3)), (4, .inl (x4))], [], hp σ, 0, 0) := by
  unfold f_X12_asksFor_46
  refine T_go (S' := (49, [(0, .inr (.inr (x0))), (1, .inl (x1)), (2, .inl (x2)), (3, .inl (x3)), (4, .inl (x4))], [.inl ((-1 : Int32)), .inl (x4)], hp σ, 0, 0)) 2 rfl ?_
  refine T_icmp_ne 59 rfl rfl (fun _ => ?_) (fun _ => ?_)
  · refine T_loc (ls' := [(0, .inr (.inr (x0))), (1, .inl (x1)), (2, .inl (x2)), (3, .inl (x3)), (4, .inl (x4))]) [0, 1, 2, 3, 4] rfl ?_
    exact s_X12_asksFor_59 x0 x1 x2 x3 x4 σ
  · refine T_go (S' := (54, [(0, .inr (.inr (x0))), (1, .inl (x1)), (2, .inl (x2)), (3, .inl (x3)), (4, .inl (x4))], [.inl (x1), .inr (.inr (x0))], hp σ, 0, 0)) 2 rfl ?_
    refine T_cv (i := iI) (as := [.inr (.inr (x0)), .inl (x1)]) (rest := []) (st := [.inl (x1), .inr (.inr (x0))]) rfl rfl rfl ⟨lb rfl, lb rfl, lb rfl, lb rfl⟩ (fun _ h => Ew_le (lb rfl) (s_X12_emptyPlace x0 x1 σ _ h)) (fun _ r1 => ?_)
    show Snd false none _ _ _ (cN iI) (57, [(0, .inr (.inr (x0))), (1, .inl (x1)), (2, .inl (x2)), (3, .inl (x3)), (4, .inl (x4))], [.inl (r1.1)], hp r1.2, 0, 0)
    refine T_go (S' := (59, [(4, .inl (r1.1)), (0, .inr (.inr (x0))), (1, .inl (x1)), (2, .inl (x2)), (3, .inl (x3))], [], hp r1.2, 0, 0)) 1 rfl ?_
    refine T_loc (ls' := [(0, .inr (.inr (x0))), (1, .inl (x1)), (2, .inl (x2)), (3, .inl (x3)), (4, .inl (r1.1))]) [1, 2, 3, 4, 0] rfl ?_
    exact s_X12_asksFor_59 x0 x1 x2 x3 r1.1 r1.2
def f_X12_asksFor (x0 : Nat) (x1 : Int32) (x2 : Int32) (x3 : Int32) (σ : eMem) : Option (Int32 × eMem) :=
  if (KH x0).1 = 10 then
    Option.bind (f_X12_placeOf x0 x1 x2 σ) (fun r1 =>
      if (KH x0).1 = 10 then
        if (KH (RH x0 19)).1 = 11 ∧ eix (((16 : Int32) * x1) + x2) (KH (RH x0 19)).2 = true then
          if ¬ (r1.2.1 (RH x0 19) (((16 : Int32) * x1) + x2).toNatClampNeg) = (-1 : Int32) then
            f_X12_asksFor_44  r1.2
          else
            if r1.1 = (-1 : Int32) then
              f_X12_asksFor_46 x0 x1 x2 x3 r1.1 r1.2
            else
              if (KH x0).1 = 10 then
                if (KH (RH x0 13)).1 = 11 ∧ eix r1.1 (KH (RH x0 13)).2 = true then
                  if ¬ (r1.2.1 (RH x0 13) r1.1.toNatClampNeg) = (1 : Int32) then
                    f_X12_asksFor_44  r1.2
                  else
                    if ¬ x3 = (0 : Int32) then
                      f_X12_asksFor_46 x0 x1 x2 x3 r1.1 r1.2
                    else
                      f_X12_asksFor_44  r1.2
                else none
              else none
        else none
      else none
      )
  else none
set_option maxHeartbeats 4000000 in
set_option maxRecDepth 20000 in
theorem s_X12_asksFor (x0 : Nat) (x1 : Int32) (x2 : Int32) (x3 : Int32) (σ : eMem) : ∀ r, f_X12_asksFor x0 x1 x2 x3 σ = some r → Ew false 3 156 [.inr (.inr (x0)), .inl (x1), .inl (x2), .inl (x3)] (hp σ) (cN iI r) := by
  refine T_meth (md := m_X12_asksFor) (d0 := 2) (cv := (cN iI)) rfl (lb rfl) (lb rfl) ?_
  unfold f_X12_asksFor
  show Snd false none _ _ _ _ (0, [(0, .inr (.inr (x0))), (1, .inl (x1)), (2, .inl (x2)), (3, .inl (x3))], [], hp σ, 0, 0)
  refine T_go (S' := (3, [(0, .inr (.inr (x0))), (1, .inl (x1)), (2, .inl (x2)), (3, .inl (x3))], [.inl (x2), .inl (x1), .inr (.inr (x0))], hp σ, 0, 0)) 3 rfl ?_
  refine T_cv (i := iI) (as := [.inr (.inr (x0)), .inl (x1), .inl (x2)]) (rest := []) (st := [.inl (x2), .inl (x1), .inr (.inr (x0))]) rfl rfl rfl ⟨lb rfl, lb rfl, lb rfl, lb rfl⟩ (fun _ h => Ew_le (lb rfl) (s_X12_placeOf x0 x1 x2 σ _ h)) (fun _ r1 => ?_)
  show Snd false none _ _ _ (cN iI) (6, [(0, .inr (.inr (x0))), (1, .inl (x1)), (2, .inl (x2)), (3, .inl (x3))], [.inl (r1.1)], hp r1.2, 0, 0)
  refine T_go (S' := (9, [(4, .inl (r1.1)), (0, .inr (.inr (x0))), (1, .inl (x1)), (2, .inl (x2)), (3, .inl (x3))], [.inr (.inr (x0))], hp r1.2, 0, 0)) 2 rfl ?_
  refine T_getR rfl (fun _ => ?_)
  refine T_go (S' := (18, [(4, .inl (r1.1)), (0, .inr (.inr (x0))), (1, .inl (x1)), (2, .inl (x2)), (3, .inl (x3))], [.inl ((((16 : Int32) * x1) + x2)), .inr (.inr ((RH x0 19)))], hp r1.2, 0, 0)) 5 rfl ?_
  refine T_iald rfl (fun _ => ?_)
  refine T_go (S' := (20, [(4, .inl (r1.1)), (0, .inr (.inr (x0))), (1, .inl (x1)), (2, .inl (x2)), (3, .inl (x3))], [.inl ((-1 : Int32)), .inl ((r1.2.1 (RH x0 19) (((16 : Int32) * x1) + x2).toNatClampNeg))], hp r1.2, 0, 0)) 1 rfl ?_
  refine T_icmp_ne 44 rfl rfl (fun _ => ?_) (fun _ => ?_)
  · refine T_loc (ls' := []) [] rfl ?_
    exact s_X12_asksFor_44  r1.2
  · refine T_go (S' := (26, [(4, .inl (r1.1)), (0, .inr (.inr (x0))), (1, .inl (x1)), (2, .inl (x2)), (3, .inl (x3))], [.inl ((-1 : Int32)), .inl (r1.1)], hp r1.2, 0, 0)) 2 rfl ?_
    refine T_icmp_eq 46 rfl rfl (fun _ => ?_) (fun _ => ?_)
    · refine T_loc (ls' := [(0, .inr (.inr (x0))), (1, .inl (x1)), (2, .inl (x2)), (3, .inl (x3)), (4, .inl (r1.1))]) [1, 2, 3, 4, 0] rfl ?_
      exact s_X12_asksFor_46 x0 x1 x2 x3 r1.1 r1.2
    · refine T_go (S' := (30, [(4, .inl (r1.1)), (0, .inr (.inr (x0))), (1, .inl (x1)), (2, .inl (x2)), (3, .inl (x3))], [.inr (.inr (x0))], hp r1.2, 0, 0)) 1 rfl ?_
      refine T_getR rfl (fun _ => ?_)
      refine T_go (S' := (35, [(4, .inl (r1.1)), (0, .inr (.inr (x0))), (1, .inl (x1)), (2, .inl (x2)), (3, .inl (x3))], [.inl (r1.1), .inr (.inr ((RH x0 13)))], hp r1.2, 0, 0)) 1 rfl ?_
      refine T_iald rfl (fun _ => ?_)
      refine T_go (S' := (37, [(4, .inl (r1.1)), (0, .inr (.inr (x0))), (1, .inl (x1)), (2, .inl (x2)), (3, .inl (x3))], [.inl ((1 : Int32)), .inl ((r1.2.1 (RH x0 13) r1.1.toNatClampNeg))], hp r1.2, 0, 0)) 1 rfl ?_
      refine T_icmp_ne 44 rfl rfl (fun _ => ?_) (fun _ => ?_)
      · refine T_loc (ls' := []) [] rfl ?_
        exact s_X12_asksFor_44  r1.2
      · refine T_go (S' := (41, [(4, .inl (r1.1)), (0, .inr (.inr (x0))), (1, .inl (x1)), (2, .inl (x2)), (3, .inl (x3))], [.inl (x3)], hp r1.2, 0, 0)) 1 rfl ?_
        refine T_if_ne 46 rfl rfl (fun _ => ?_) (fun _ => ?_)
        · refine T_loc (ls' := [(0, .inr (.inr (x0))), (1, .inl (x1)), (2, .inl (x2)), (3, .inl (x3)), (4, .inl (r1.1))]) [1, 2, 3, 4, 0] rfl ?_
          exact s_X12_asksFor_46 x0 x1 x2 x3 r1.1 r1.2
        · refine T_loc (ls' := []) [] rfl ?_
          exact s_X12_asksFor_44  r1.2
def f_X12_answers_27 (s0 : Nat) (s1 : Int32) (s2 : Int32) (s3 : Int32) (s4 : Int32) (s5 : Int32) (s6 : Int32) (σ : eMem) : Option (Unit × eMem) :=
  if (KH s0).1 = 10 then
    Option.bind (f_X12_sends s0 s1 s2 s3 s4 s5 s6 σ) (fun r1 =>
      some ((), r1.2)
      )
  else none
set_option maxHeartbeats 4000000 in
set_option maxRecDepth 20000 in
theorem s_X12_answers_27 (s0 : Nat) (s1 : Int32) (s2 : Int32) (s3 : Int32) (s4 : Int32) (s5 : Int32) (s6 : Int32) (σ : eMem) : Snd false none 1 m_X12_answers (f_X12_answers_27 s0 s1 s2 s3 s4 s5 s6 σ) (cN iU) (27, [], [.inl (s6), .inl (s5), .inl (s4), .inl (s3), .inl (s2), .inl (s1), .inr (.inr (s0))], hp σ, 0, 0) := by
  unfold f_X12_answers_27
  refine T_cv (i := iU) (as := [.inr (.inr (s0)), .inl (s1), .inl (s2), .inl (s3), .inl (s4), .inl (s5), .inl (s6)]) (rest := []) (st := [.inl (s6), .inl (s5), .inl (s4), .inl (s3), .inl (s2), .inl (s1), .inr (.inr (s0))]) rfl rfl rfl ⟨lb rfl, lb rfl, lb rfl, lb rfl⟩ (fun _ h => Ew_le (lb rfl) (s_X12_sends s0 s1 s2 s3 s4 s5 s6 σ _ h)) (fun _ r1 => ?_)
  show Snd false none _ _ _ (cN iU) (30, [], [], hp r1.2, 0, 0)
  exact T_ret rfl
def f_X12_answers_15 (x1 : Int32) (x2 : Int32) (x3 : Int32) (s0 : Nat) (s1 : Int32) (s2 : Int32) (s3 : Int32) (σ : eMem) : Option (Unit × eMem) :=
  if ¬ x3 = (-1 : Int32) then
    f_X12_answers_27 s0 s1 s2 s3 x2 x1 x3 σ
  else
    f_X12_answers_27 s0 s1 s2 s3 x2 x1 (0 : Int32) σ
set_option maxHeartbeats 4000000 in
set_option maxRecDepth 20000 in
theorem s_X12_answers_15 (x1 : Int32) (x2 : Int32) (x3 : Int32) (s0 : Nat) (s1 : Int32) (s2 : Int32) (s3 : Int32) (σ : eMem) : Snd false none 1 m_X12_answers (f_X12_answers_15 x1 x2 x3 s0 s1 s2 s3 σ) (cN iU) (15, [(1, .inl (x1)), (2, .inl (x2)), (3, .inl (x3))], [.inl (s3), .inl (s2), .inl (s1), .inr (.inr (s0))], hp σ, 0, 0) := by
  unfold f_X12_answers_15
  refine T_go (S' := (19, [(1, .inl (x1)), (2, .inl (x2)), (3, .inl (x3))], [.inl ((-1 : Int32)), .inl (x3), .inl (x1), .inl (x2), .inl (s3), .inl (s2), .inl (s1), .inr (.inr (s0))], hp σ, 0, 0)) 4 rfl ?_
  refine T_icmp_ne 26 rfl rfl (fun _ => ?_) (fun _ => ?_)
  · refine T_go (S' := (27, [(1, .inl (x1)), (2, .inl (x2)), (3, .inl (x3))], [.inl (x3), .inl (x1), .inl (x2), .inl (s3), .inl (s2), .inl (s1), .inr (.inr (s0))], hp σ, 0, 0)) 1 rfl ?_
    refine T_loc (ls' := []) [] rfl ?_
    exact s_X12_answers_27 s0 s1 s2 s3 x2 x1 x3 σ
  · refine T_go (S' := (27, [(1, .inl (x1)), (2, .inl (x2)), (3, .inl (x3))], [.inl ((0 : Int32)), .inl (x1), .inl (x2), .inl (s3), .inl (s2), .inl (s1), .inr (.inr (s0))], hp σ, 0, 0)) 2 rfl ?_
    refine T_loc (ls' := []) [] rfl ?_
    exact s_X12_answers_27 s0 s1 s2 s3 x2 x1 (0 : Int32) σ
def f_X12_answers (x0 : Nat) (x1 : Int32) (x2 : Int32) (x3 : Int32) (σ : eMem) : Option (Unit × eMem) :=
  if ¬ x3 = (-1 : Int32) then
    f_X12_answers_15 x1 x2 x3 x0 (2 : Int32) (4 : Int32) (8 : Int32) σ
  else
    f_X12_answers_15 x1 x2 x3 x0 (2 : Int32) (4 : Int32) (9 : Int32) σ
set_option maxHeartbeats 4000000 in
set_option maxRecDepth 20000 in
theorem s_X12_answers (x0 : Nat) (x1 : Int32) (x2 : Int32) (x3 : Int32) (σ : eMem) : ∀ r, f_X12_answers x0 x1 x2 x3 σ = some r → Ew false 2 157 [.inr (.inr (x0)), .inl (x1), .inl (x2), .inl (x3)] (hp σ) (cN iU r) := by
  refine T_meth (md := m_X12_answers) (d0 := 1) (cv := (cN iU)) rfl (lb rfl) (lb rfl) ?_
  unfold f_X12_answers
  show Snd false none _ _ _ _ (0, [(0, .inr (.inr (x0))), (1, .inl (x1)), (2, .inl (x2)), (3, .inl (x3))], [], hp σ, 0, 0)
  refine T_go (S' := (5, [(0, .inr (.inr (x0))), (1, .inl (x1)), (2, .inl (x2)), (3, .inl (x3))], [.inl ((-1 : Int32)), .inl (x3), .inl ((4 : Int32)), .inl ((2 : Int32)), .inr (.inr (x0))], hp σ, 0, 0)) 5 rfl ?_
  refine T_icmp_ne 13 rfl rfl (fun _ => ?_) (fun _ => ?_)
  · refine T_go (S' := (15, [(0, .inr (.inr (x0))), (1, .inl (x1)), (2, .inl (x2)), (3, .inl (x3))], [.inl ((8 : Int32)), .inl ((4 : Int32)), .inl ((2 : Int32)), .inr (.inr (x0))], hp σ, 0, 0)) 1 rfl ?_
    refine T_loc (ls' := [(1, .inl (x1)), (2, .inl (x2)), (3, .inl (x3))]) [1, 2, 3] rfl ?_
    exact s_X12_answers_15 x1 x2 x3 x0 (2 : Int32) (4 : Int32) (8 : Int32) σ
  · refine T_go (S' := (15, [(0, .inr (.inr (x0))), (1, .inl (x1)), (2, .inl (x2)), (3, .inl (x3))], [.inl ((9 : Int32)), .inl ((4 : Int32)), .inl ((2 : Int32)), .inr (.inr (x0))], hp σ, 0, 0)) 2 rfl ?_
    refine T_loc (ls' := [(1, .inl (x1)), (2, .inl (x2)), (3, .inl (x3))]) [1, 2, 3] rfl ?_
    exact s_X12_answers_15 x1 x2 x3 x0 (2 : Int32) (4 : Int32) (9 : Int32) σ
def f_X12_fetches_122  (σ : eMem) : Option (Unit × eMem) :=
  some ((), σ)
set_option maxHeartbeats 4000000 in
set_option maxRecDepth 20000 in
theorem s_X12_fetches_122  (σ : eMem) : Snd false none 2 m_X12_fetches (f_X12_fetches_122 σ) (cN iU) (122, [], [], hp σ, 0, 0) := by
  unfold f_X12_fetches_122
  exact T_ret rfl
def f_X12_fetches_86 (s0 : Nat) (s1 : Int32) (s2 : Int32) (σ : eMem) : Option (Unit × eMem) :=
  if (KH s0).1 = 11 ∧ eix s1 (KH s0).2 = true then eLet ((eup σ.1 s0 s1.toNatClampNeg s2, σ.2) : eMem) (fun σ1 =>
    f_X12_fetches_122  σ1
    ) else none
set_option maxHeartbeats 4000000 in
set_option maxRecDepth 20000 in
theorem s_X12_fetches_86 (s0 : Nat) (s1 : Int32) (s2 : Int32) (σ : eMem) : Snd false none 2 m_X12_fetches (f_X12_fetches_86 s0 s1 s2 σ) (cN iU) (86, [], [.inl (s2), .inl (s1), .inr (.inr (s0))], hp σ, 0, 0) := by
  unfold f_X12_fetches_86
  refine T_iast rfl (fun _ => ?_)
  refine T_let (Sf := fun σ1 => (87, [], [], hp σ1, 0, 0)) (fun σ1 => ?_)
  refine T_go (S' := (122, [], [], hp σ1, 0, 0)) 1 rfl ?_
  refine T_loc (ls' := []) [] rfl ?_
  exact s_X12_fetches_122  σ1
def f_X12_fetches_90 (x0 : Nat) (x1 : Int32) (x2 : Int32) (σ : eMem) : Option (Unit × eMem) :=
  if (KH x0).1 = 10 then
    if (KH (RH x0 19)).1 = 11 ∧ eix (((16 : Int32) * x1) + x2) (KH (RH x0 19)).2 = true then
      if (σ.1 (RH x0 19) (((16 : Int32) * x1) + x2).toNatClampNeg) = (-1 : Int32) then
        f_X12_fetches_122  σ
      else
        if (KH x0).1 = 10 then
          if (KH (RH x0 19)).1 = 11 ∧ eix (((16 : Int32) * x1) + x2) (KH (RH x0 19)).2 = true then
            if (KH x0).1 = 10 then
              Option.bind (f_X12_answers x0 x1 x2 (σ.1 (RH x0 19) (((16 : Int32) * x1) + x2).toNatClampNeg) σ) (fun r1 =>
                f_X12_fetches_122  r1.2
                )
            else none
          else none
        else none
    else none
  else none
set_option maxHeartbeats 4000000 in
set_option maxRecDepth 20000 in
theorem s_X12_fetches_90 (x0 : Nat) (x1 : Int32) (x2 : Int32) (σ : eMem) : Snd false none 2 m_X12_fetches (f_X12_fetches_90 x0 x1 x2 σ) (cN iU) (90, [(0, .inr (.inr (x0))), (1, .inl (x1)), (2, .inl (x2))], [], hp σ, 0, 0) := by
  unfold f_X12_fetches_90
  refine T_go (S' := (91, [(0, .inr (.inr (x0))), (1, .inl (x1)), (2, .inl (x2))], [.inr (.inr (x0))], hp σ, 0, 0)) 1 rfl ?_
  refine T_getR rfl (fun _ => ?_)
  refine T_go (S' := (100, [(0, .inr (.inr (x0))), (1, .inl (x1)), (2, .inl (x2))], [.inl ((((16 : Int32) * x1) + x2)), .inr (.inr ((RH x0 19)))], hp σ, 0, 0)) 5 rfl ?_
  refine T_iald rfl (fun _ => ?_)
  refine T_go (S' := (102, [(0, .inr (.inr (x0))), (1, .inl (x1)), (2, .inl (x2))], [.inl ((-1 : Int32)), .inl ((σ.1 (RH x0 19) (((16 : Int32) * x1) + x2).toNatClampNeg))], hp σ, 0, 0)) 1 rfl ?_
  refine T_icmp_eq 122 rfl rfl (fun _ => ?_) (fun _ => ?_)
  · refine T_loc (ls' := []) [] rfl ?_
    exact s_X12_fetches_122  σ
  · refine T_go (S' := (109, [(0, .inr (.inr (x0))), (1, .inl (x1)), (2, .inl (x2))], [.inr (.inr (x0)), .inl (x2), .inl (x1), .inr (.inr (x0))], hp σ, 0, 0)) 4 rfl ?_
    refine T_getR rfl (fun _ => ?_)
    refine T_go (S' := (118, [(0, .inr (.inr (x0))), (1, .inl (x1)), (2, .inl (x2))], [.inl ((((16 : Int32) * x1) + x2)), .inr (.inr ((RH x0 19))), .inl (x2), .inl (x1), .inr (.inr (x0))], hp σ, 0, 0)) 5 rfl ?_
    refine T_iald rfl (fun _ => ?_)
    refine T_cv (i := iU) (as := [.inr (.inr (x0)), .inl (x1), .inl (x2), .inl ((σ.1 (RH x0 19) (((16 : Int32) * x1) + x2).toNatClampNeg))]) (rest := []) (st := [.inl ((σ.1 (RH x0 19) (((16 : Int32) * x1) + x2).toNatClampNeg)), .inl (x2), .inl (x1), .inr (.inr (x0))]) rfl rfl rfl ⟨lb rfl, lb rfl, lb rfl, lb rfl⟩ (fun _ h => Ew_le (lb rfl) (s_X12_answers x0 x1 x2 (σ.1 (RH x0 19) (((16 : Int32) * x1) + x2).toNatClampNeg) σ _ h)) (fun _ r1 => ?_)
    show Snd false none _ _ _ (cN iU) (122, [(0, .inr (.inr (x0))), (1, .inl (x1)), (2, .inl (x2))], [], hp r1.2, 0, 0)
    refine T_loc (ls' := []) [] rfl ?_
    exact s_X12_fetches_122  r1.2
def f_X12_fetches_38 (x0 : Nat) (x1 : Int32) (x2 : Int32) (x3 : Int32) (x4 : Int32) (σ : eMem) : Option (Unit × eMem) :=
  if x4 = (-1 : Int32) then
    f_X12_fetches_90 x0 x1 x2 σ
  else
    if (KH x0).1 = 10 then
      if (KH (RH x0 13)).1 = 11 ∧ eix x4 (KH (RH x0 13)).2 = true then
        Option.bind (f_X12_isOwned (σ.1 (RH x0 13) x4.toNatClampNeg) σ) (fun r1 =>
          if r1.1 = (0 : Int32) then
            f_X12_fetches_90 x0 x1 x2 r1.2
          else
            if (KH x0).1 = 10 then
              if (KH (RH x0 14)).1 = 11 ∧ eix x4 (KH (RH x0 14)).2 = true then
                if (KH x0).1 = 10 then
                  Option.bind (f_X12_answers x0 x1 x2 (r1.2.1 (RH x0 14) x4.toNatClampNeg) r1.2) (fun r2 =>
                    if (KH x0).1 = 10 then
                      if ¬ x3 = (3 : Int32) then
                        f_X12_fetches_86 (RH x0 13) x4 (0 : Int32) r2.2
                      else
                        f_X12_fetches_86 (RH x0 13) x4 (1 : Int32) r2.2
                    else none
                    )
                else none
              else none
            else none
          )
      else none
    else none
set_option maxHeartbeats 4000000 in
set_option maxRecDepth 20000 in
theorem s_X12_fetches_38 (x0 : Nat) (x1 : Int32) (x2 : Int32) (x3 : Int32) (x4 : Int32) (σ : eMem) : Snd false none 2 m_X12_fetches (f_X12_fetches_38 x0 x1 x2 x3 x4 σ) (cN iU) (38, [(0, .inr (.inr (x0))), (1, .inl (x1)), (2, .inl (x2)), (3, .inl (x3)), (4, .inl (x4))], [], hp σ, 0, 0) := by
  unfold f_X12_fetches_38
  refine T_go (S' := (41, [(0, .inr (.inr (x0))), (1, .inl (x1)), (2, .inl (x2)), (3, .inl (x3)), (4, .inl (x4))], [.inl ((-1 : Int32)), .inl (x4)], hp σ, 0, 0)) 2 rfl ?_
  refine T_icmp_eq 90 rfl rfl (fun _ => ?_) (fun _ => ?_)
  · refine T_loc (ls' := [(0, .inr (.inr (x0))), (1, .inl (x1)), (2, .inl (x2))]) [0, 1, 2] rfl ?_
    exact s_X12_fetches_90 x0 x1 x2 σ
  · refine T_go (S' := (45, [(0, .inr (.inr (x0))), (1, .inl (x1)), (2, .inl (x2)), (3, .inl (x3)), (4, .inl (x4))], [.inr (.inr (x0))], hp σ, 0, 0)) 1 rfl ?_
    refine T_getR rfl (fun _ => ?_)
    refine T_go (S' := (50, [(0, .inr (.inr (x0))), (1, .inl (x1)), (2, .inl (x2)), (3, .inl (x3)), (4, .inl (x4))], [.inl (x4), .inr (.inr ((RH x0 13)))], hp σ, 0, 0)) 1 rfl ?_
    refine T_iald rfl (fun _ => ?_)
    refine T_cs (i := iI) (as := [.inl ((σ.1 (RH x0 13) x4.toNatClampNeg))]) (rest := []) (st := [.inl ((σ.1 (RH x0 13) x4.toNatClampNeg))]) rfl (lb rfl) rfl rfl ⟨lb rfl, lb rfl, lb rfl, lb rfl⟩ (fun _ h => Ew_le (lb rfl) (s_X12_isOwned (σ.1 (RH x0 13) x4.toNatClampNeg) σ _ h)) (fun r1 => ?_)
    show Snd false none _ _ _ (cN iU) (54, [(0, .inr (.inr (x0))), (1, .inl (x1)), (2, .inl (x2)), (3, .inl (x3)), (4, .inl (x4))], [.inl (r1.1)], hp r1.2, 0, 0)
    refine T_if_eq 90 rfl rfl (fun _ => ?_) (fun _ => ?_)
    · refine T_loc (ls' := [(0, .inr (.inr (x0))), (1, .inl (x1)), (2, .inl (x2))]) [0, 1, 2] rfl ?_
      exact s_X12_fetches_90 x0 x1 x2 r1.2
    · refine T_go (S' := (61, [(0, .inr (.inr (x0))), (1, .inl (x1)), (2, .inl (x2)), (3, .inl (x3)), (4, .inl (x4))], [.inr (.inr (x0)), .inl (x2), .inl (x1), .inr (.inr (x0))], hp r1.2, 0, 0)) 4 rfl ?_
      refine T_getR rfl (fun _ => ?_)
      refine T_go (S' := (66, [(0, .inr (.inr (x0))), (1, .inl (x1)), (2, .inl (x2)), (3, .inl (x3)), (4, .inl (x4))], [.inl (x4), .inr (.inr ((RH x0 14))), .inl (x2), .inl (x1), .inr (.inr (x0))], hp r1.2, 0, 0)) 1 rfl ?_
      refine T_iald rfl (fun _ => ?_)
      refine T_cv (i := iU) (as := [.inr (.inr (x0)), .inl (x1), .inl (x2), .inl ((r1.2.1 (RH x0 14) x4.toNatClampNeg))]) (rest := []) (st := [.inl ((r1.2.1 (RH x0 14) x4.toNatClampNeg)), .inl (x2), .inl (x1), .inr (.inr (x0))]) rfl rfl rfl ⟨lb rfl, lb rfl, lb rfl, lb rfl⟩ (fun _ h => Ew_le (lb rfl) (s_X12_answers x0 x1 x2 (r1.2.1 (RH x0 14) x4.toNatClampNeg) r1.2 _ h)) (fun _ r2 => ?_)
      show Snd false none _ _ _ (cN iU) (70, [(0, .inr (.inr (x0))), (1, .inl (x1)), (2, .inl (x2)), (3, .inl (x3)), (4, .inl (x4))], [], hp r2.2, 0, 0)
      refine T_go (S' := (71, [(0, .inr (.inr (x0))), (1, .inl (x1)), (2, .inl (x2)), (3, .inl (x3)), (4, .inl (x4))], [.inr (.inr (x0))], hp r2.2, 0, 0)) 1 rfl ?_
      refine T_getR rfl (fun _ => ?_)
      refine T_go (S' := (78, [(0, .inr (.inr (x0))), (1, .inl (x1)), (2, .inl (x2)), (3, .inl (x3)), (4, .inl (x4))], [.inl ((3 : Int32)), .inl (x3), .inl (x4), .inr (.inr ((RH x0 13)))], hp r2.2, 0, 0)) 3 rfl ?_
      refine T_icmp_ne 85 rfl rfl (fun _ => ?_) (fun _ => ?_)
      · refine T_go (S' := (86, [(0, .inr (.inr (x0))), (1, .inl (x1)), (2, .inl (x2)), (3, .inl (x3)), (4, .inl (x4))], [.inl ((0 : Int32)), .inl (x4), .inr (.inr ((RH x0 13)))], hp r2.2, 0, 0)) 1 rfl ?_
        refine T_loc (ls' := []) [] rfl ?_
        exact s_X12_fetches_86 (RH x0 13) x4 (0 : Int32) r2.2
      · refine T_go (S' := (86, [(0, .inr (.inr (x0))), (1, .inl (x1)), (2, .inl (x2)), (3, .inl (x3)), (4, .inl (x4))], [.inl ((1 : Int32)), .inl (x4), .inr (.inr ((RH x0 13)))], hp r2.2, 0, 0)) 2 rfl ?_
        refine T_loc (ls' := []) [] rfl ?_
        exact s_X12_fetches_86 (RH x0 13) x4 (1 : Int32) r2.2
def f_X12_fetches (x0 : Nat) (x1 : Int32) (x2 : Int32) (x3 : Int32) (σ : eMem) : Option (Unit × eMem) :=
  if (KH x0).1 = 10 then
    Option.bind (f_X12_placeOf x0 x1 x2 σ) (fun r1 =>
      if r1.1 = (-1 : Int32) then
        f_X12_fetches_38 x0 x1 x2 x3 r1.1 r1.2
      else
        if (KH x0).1 = 10 then
          if (KH (RH x0 13)).1 = 11 ∧ eix r1.1 (KH (RH x0 13)).2 = true then
            Option.bind (f_X12_isWaiting (r1.2.1 (RH x0 13) r1.1.toNatClampNeg) r1.2) (fun r2 =>
              if r2.1 = (0 : Int32) then
                f_X12_fetches_38 x0 x1 x2 x3 r1.1 r2.2
              else
                if (KH x0).1 = 10 then
                  if (KH (RH x0 17)).1 = 11 ∧ eix r1.1 (KH (RH x0 17)).2 = true then eLet ((eup r2.2.1 (RH x0 17) r1.1.toNatClampNeg x3, r2.2.2) : eMem) (fun σ3 =>
                    f_X12_fetches_122  σ3
                    ) else none
                else none
              )
          else none
        else none
      )
  else none
set_option maxHeartbeats 4000000 in
set_option maxRecDepth 20000 in
theorem s_X12_fetches (x0 : Nat) (x1 : Int32) (x2 : Int32) (x3 : Int32) (σ : eMem) : ∀ r, f_X12_fetches x0 x1 x2 x3 σ = some r → Ew false 3 158 [.inr (.inr (x0)), .inl (x1), .inl (x2), .inl (x3)] (hp σ) (cN iU r) := by
  refine T_meth (md := m_X12_fetches) (d0 := 2) (cv := (cN iU)) rfl (lb rfl) (lb rfl) ?_
  unfold f_X12_fetches
  show Snd false none _ _ _ _ (0, [(0, .inr (.inr (x0))), (1, .inl (x1)), (2, .inl (x2)), (3, .inl (x3))], [], hp σ, 0, 0)
  refine T_go (S' := (3, [(0, .inr (.inr (x0))), (1, .inl (x1)), (2, .inl (x2)), (3, .inl (x3))], [.inl (x2), .inl (x1), .inr (.inr (x0))], hp σ, 0, 0)) 3 rfl ?_
  refine T_cv (i := iI) (as := [.inr (.inr (x0)), .inl (x1), .inl (x2)]) (rest := []) (st := [.inl (x2), .inl (x1), .inr (.inr (x0))]) rfl rfl rfl ⟨lb rfl, lb rfl, lb rfl, lb rfl⟩ (fun _ h => Ew_le (lb rfl) (s_X12_placeOf x0 x1 x2 σ _ h)) (fun _ r1 => ?_)
  show Snd false none _ _ _ (cN iU) (6, [(0, .inr (.inr (x0))), (1, .inl (x1)), (2, .inl (x2)), (3, .inl (x3))], [.inl (r1.1)], hp r1.2, 0, 0)
  refine T_go (S' := (11, [(4, .inl (r1.1)), (0, .inr (.inr (x0))), (1, .inl (x1)), (2, .inl (x2)), (3, .inl (x3))], [.inl ((-1 : Int32)), .inl (r1.1)], hp r1.2, 0, 0)) 3 rfl ?_
  refine T_icmp_eq 38 rfl rfl (fun _ => ?_) (fun _ => ?_)
  · refine T_loc (ls' := [(0, .inr (.inr (x0))), (1, .inl (x1)), (2, .inl (x2)), (3, .inl (x3)), (4, .inl (r1.1))]) [1, 2, 3, 4, 0] rfl ?_
    exact s_X12_fetches_38 x0 x1 x2 x3 r1.1 r1.2
  · refine T_go (S' := (15, [(4, .inl (r1.1)), (0, .inr (.inr (x0))), (1, .inl (x1)), (2, .inl (x2)), (3, .inl (x3))], [.inr (.inr (x0))], hp r1.2, 0, 0)) 1 rfl ?_
    refine T_getR rfl (fun _ => ?_)
    refine T_go (S' := (20, [(4, .inl (r1.1)), (0, .inr (.inr (x0))), (1, .inl (x1)), (2, .inl (x2)), (3, .inl (x3))], [.inl (r1.1), .inr (.inr ((RH x0 13)))], hp r1.2, 0, 0)) 1 rfl ?_
    refine T_iald rfl (fun _ => ?_)
    refine T_cs (i := iI) (as := [.inl ((r1.2.1 (RH x0 13) r1.1.toNatClampNeg))]) (rest := []) (st := [.inl ((r1.2.1 (RH x0 13) r1.1.toNatClampNeg))]) rfl (lb rfl) rfl rfl ⟨lb rfl, lb rfl, lb rfl, lb rfl⟩ (fun _ h => Ew_le (lb rfl) (s_X12_isWaiting (r1.2.1 (RH x0 13) r1.1.toNatClampNeg) r1.2 _ h)) (fun r2 => ?_)
    show Snd false none _ _ _ (cN iU) (24, [(4, .inl (r1.1)), (0, .inr (.inr (x0))), (1, .inl (x1)), (2, .inl (x2)), (3, .inl (x3))], [.inl (r2.1)], hp r2.2, 0, 0)
    refine T_if_eq 38 rfl rfl (fun _ => ?_) (fun _ => ?_)
    · refine T_loc (ls' := [(0, .inr (.inr (x0))), (1, .inl (x1)), (2, .inl (x2)), (3, .inl (x3)), (4, .inl (r1.1))]) [1, 2, 3, 4, 0] rfl ?_
      exact s_X12_fetches_38 x0 x1 x2 x3 r1.1 r2.2
    · refine T_go (S' := (28, [(4, .inl (r1.1)), (0, .inr (.inr (x0))), (1, .inl (x1)), (2, .inl (x2)), (3, .inl (x3))], [.inr (.inr (x0))], hp r2.2, 0, 0)) 1 rfl ?_
      refine T_getR rfl (fun _ => ?_)
      refine T_go (S' := (34, [(4, .inl (r1.1)), (0, .inr (.inr (x0))), (1, .inl (x1)), (2, .inl (x2)), (3, .inl (x3))], [.inl (x3), .inl (r1.1), .inr (.inr ((RH x0 17)))], hp r2.2, 0, 0)) 2 rfl ?_
      refine T_iast rfl (fun _ => ?_)
      refine T_let (Sf := fun σ3 => (35, [(4, .inl (r1.1)), (0, .inr (.inr (x0))), (1, .inl (x1)), (2, .inl (x2)), (3, .inl (x3))], [], hp σ3, 0, 0)) (fun σ3 => ?_)
      refine T_go (S' := (122, [(4, .inl (r1.1)), (0, .inr (.inr (x0))), (1, .inl (x1)), (2, .inl (x2)), (3, .inl (x3))], [], hp σ3, 0, 0)) 1 rfl ?_
      refine T_loc (ls' := []) [] rfl ?_
      exact s_X12_fetches_122  σ3
def f_X12_breaks_59 (s0 : Nat) (s1 : Int32) (s2 : Int32) (σ : eMem) : Option (Unit × eMem) :=
  if (KH s0).1 = 13 ∧ eix s1 (KH s0).2 = true ∧ eB s2 = true then eLet ((eup σ.1 s0 s1.toNatClampNeg s2, σ.2) : eMem) (fun σ1 =>
    some ((), σ1)
    ) else none
set_option maxHeartbeats 4000000 in
set_option maxRecDepth 20000 in
theorem s_X12_breaks_59 (s0 : Nat) (s1 : Int32) (s2 : Int32) (σ : eMem) : Snd false none 1 m_X12_breaks (f_X12_breaks_59 s0 s1 s2 σ) (cN iU) (59, [], [.inl (s2), .inl (s1), .inr (.inr (s0))], hp σ, 0, 0) := by
  unfold f_X12_breaks_59
  refine T_bast rfl (fun _ => ?_)
  refine T_let (Sf := fun σ1 => (60, [], [], hp σ1, 0, 0)) (fun σ1 => ?_)
  exact T_ret rfl
def f_X12_breaks_54 (s0 : Nat) (s1 : Int32) (σ : eMem) : Option (Unit × eMem) :=
  f_X12_breaks_59 s0 s1 (1 : Int32) σ
set_option maxHeartbeats 4000000 in
set_option maxRecDepth 20000 in
theorem s_X12_breaks_54 (s0 : Nat) (s1 : Int32) (σ : eMem) : Snd false none 1 m_X12_breaks (f_X12_breaks_54 s0 s1 σ) (cN iU) (54, [], [.inl (s1), .inr (.inr (s0))], hp σ, 0, 0) := by
  unfold f_X12_breaks_54
  refine T_go (S' := (59, [], [.inl ((1 : Int32)), .inl (s1), .inr (.inr (s0))], hp σ, 0, 0)) 2 rfl ?_
  refine T_loc (ls' := []) [] rfl ?_
  exact s_X12_breaks_59 s0 s1 (1 : Int32) σ
def f_X12_breaks_33 (x0 : Nat) (x1 : Int32) (s0 : Int32) (σ : eMem) : Option (Unit × eMem) :=
  if (KH x0).1 = 10 then
    if (KH x0).1 = 10 then
      if (KH (RH x0 24)).1 = 13 ∧ eix x1 (KH (RH x0 24)).2 = true then
        if ¬ (σ.1 (RH x0 24) x1.toNatClampNeg) = (0 : Int32) then
          f_X12_breaks_54 (RH x0 24) x1 σ
        else
          if s0 = (0 : Int32) then
            f_X12_breaks_59 (RH x0 24) x1 (0 : Int32) σ
          else
            f_X12_breaks_54 (RH x0 24) x1 σ
      else none
    else none
  else none
set_option maxHeartbeats 4000000 in
set_option maxRecDepth 20000 in
theorem s_X12_breaks_33 (x0 : Nat) (x1 : Int32) (s0 : Int32) (σ : eMem) : Snd false none 1 m_X12_breaks (f_X12_breaks_33 x0 x1 s0 σ) (cN iU) (33, [(0, .inr (.inr (x0))), (1, .inl (x1))], [.inl (s0)], hp σ, 0, 0) := by
  unfold f_X12_breaks_33
  refine T_go (S' := (36, [(4, .inl (s0)), (0, .inr (.inr (x0))), (1, .inl (x1))], [.inr (.inr (x0))], hp σ, 0, 0)) 2 rfl ?_
  refine T_getR rfl (fun _ => ?_)
  refine T_go (S' := (41, [(4, .inl (s0)), (0, .inr (.inr (x0))), (1, .inl (x1))], [.inr (.inr (x0)), .inl (x1), .inr (.inr ((RH x0 24)))], hp σ, 0, 0)) 2 rfl ?_
  refine T_getR rfl (fun _ => ?_)
  refine T_go (S' := (45, [(4, .inl (s0)), (0, .inr (.inr (x0))), (1, .inl (x1))], [.inl (x1), .inr (.inr ((RH x0 24))), .inl (x1), .inr (.inr ((RH x0 24)))], hp σ, 0, 0)) 1 rfl ?_
  refine T_bald rfl (fun _ => ?_)
  refine T_if_ne 54 rfl rfl (fun _ => ?_) (fun _ => ?_)
  · refine T_loc (ls' := []) [] rfl ?_
    exact s_X12_breaks_54 (RH x0 24) x1 σ
  · refine T_go (S' := (51, [(4, .inl (s0)), (0, .inr (.inr (x0))), (1, .inl (x1))], [.inl (s0), .inl (x1), .inr (.inr ((RH x0 24)))], hp σ, 0, 0)) 1 rfl ?_
    refine T_if_eq 58 rfl rfl (fun _ => ?_) (fun _ => ?_)
    · refine T_go (S' := (59, [(4, .inl (s0)), (0, .inr (.inr (x0))), (1, .inl (x1))], [.inl ((0 : Int32)), .inl (x1), .inr (.inr ((RH x0 24)))], hp σ, 0, 0)) 1 rfl ?_
      refine T_loc (ls' := []) [] rfl ?_
      exact s_X12_breaks_59 (RH x0 24) x1 (0 : Int32) σ
    · refine T_loc (ls' := []) [] rfl ?_
      exact s_X12_breaks_54 (RH x0 24) x1 σ
def f_X12_breaks_28 (x0 : Nat) (x1 : Int32) (σ : eMem) : Option (Unit × eMem) :=
  f_X12_breaks_33 x0 x1 (1 : Int32) σ
set_option maxHeartbeats 4000000 in
set_option maxRecDepth 20000 in
theorem s_X12_breaks_28 (x0 : Nat) (x1 : Int32) (σ : eMem) : Snd false none 1 m_X12_breaks (f_X12_breaks_28 x0 x1 σ) (cN iU) (28, [(0, .inr (.inr (x0))), (1, .inl (x1))], [], hp σ, 0, 0) := by
  unfold f_X12_breaks_28
  refine T_go (S' := (33, [(0, .inr (.inr (x0))), (1, .inl (x1))], [.inl ((1 : Int32))], hp σ, 0, 0)) 2 rfl ?_
  refine T_loc (ls' := [(0, .inr (.inr (x0))), (1, .inl (x1))]) [0, 1] rfl ?_
  exact s_X12_breaks_33 x0 x1 (1 : Int32) σ
def f_X12_breaks_32 (x0 : Nat) (x1 : Int32) (σ : eMem) : Option (Unit × eMem) :=
  f_X12_breaks_33 x0 x1 (0 : Int32) σ
set_option maxHeartbeats 4000000 in
set_option maxRecDepth 20000 in
theorem s_X12_breaks_32 (x0 : Nat) (x1 : Int32) (σ : eMem) : Snd false none 1 m_X12_breaks (f_X12_breaks_32 x0 x1 σ) (cN iU) (32, [(0, .inr (.inr (x0))), (1, .inl (x1))], [], hp σ, 0, 0) := by
  unfold f_X12_breaks_32
  refine T_go (S' := (33, [(0, .inr (.inr (x0))), (1, .inl (x1))], [.inl ((0 : Int32))], hp σ, 0, 0)) 1 rfl ?_
  refine T_loc (ls' := [(0, .inr (.inr (x0))), (1, .inl (x1))]) [0, 1] rfl ?_
  exact s_X12_breaks_33 x0 x1 (0 : Int32) σ
def f_X12_breaks (x0 : Nat) (x1 : Int32) (x2 : Int32) (x3 : Int32) (σ : eMem) : Option (Unit × eMem) :=
  if (KH x0).1 = 10 then
    Option.bind (f_X12_isIn x0 x1 x2 σ) (fun r1 =>
      if r1.1 = (0 : Int32) then
        f_X12_breaks_32 x0 x1 r1.2
      else
        if ¬ x3 = (3 : Int32) then
          f_X12_breaks_28 x0 x1 r1.2
        else
          if (KH x0).1 = 10 then
            if (KH (RH x0 27)).1 = 11 ∧ eix x1 (KH (RH x0 27)).2 = true then
              if ¬ (((r1.2.1 (RH x0 27) x1.toNatClampNeg) >>> (x2 &&& 31)) &&& (1 : Int32)) = (1 : Int32) then
                f_X12_breaks_32 x0 x1 r1.2
              else
                f_X12_breaks_28 x0 x1 r1.2
            else none
          else none
      )
  else none
set_option maxHeartbeats 4000000 in
set_option maxRecDepth 20000 in
theorem s_X12_breaks (x0 : Nat) (x1 : Int32) (x2 : Int32) (x3 : Int32) (σ : eMem) : ∀ r, f_X12_breaks x0 x1 x2 x3 σ = some r → Ew false 2 159 [.inr (.inr (x0)), .inl (x1), .inl (x2), .inl (x3)] (hp σ) (cN iU r) := by
  refine T_meth (md := m_X12_breaks) (d0 := 1) (cv := (cN iU)) rfl (lb rfl) (lb rfl) ?_
  unfold f_X12_breaks
  show Snd false none _ _ _ _ (0, [(0, .inr (.inr (x0))), (1, .inl (x1)), (2, .inl (x2)), (3, .inl (x3))], [], hp σ, 0, 0)
  refine T_go (S' := (3, [(0, .inr (.inr (x0))), (1, .inl (x1)), (2, .inl (x2)), (3, .inl (x3))], [.inl (x2), .inl (x1), .inr (.inr (x0))], hp σ, 0, 0)) 3 rfl ?_
  refine T_cv (i := iI) (as := [.inr (.inr (x0)), .inl (x1), .inl (x2)]) (rest := []) (st := [.inl (x2), .inl (x1), .inr (.inr (x0))]) rfl rfl rfl ⟨lb rfl, lb rfl, lb rfl, lb rfl⟩ (fun _ h => Ew_le (lb rfl) (s_X12_isIn x0 x1 x2 σ _ h)) (fun _ r1 => ?_)
  show Snd false none _ _ _ (cN iU) (6, [(0, .inr (.inr (x0))), (1, .inl (x1)), (2, .inl (x2)), (3, .inl (x3))], [.inl (r1.1)], hp r1.2, 0, 0)
  refine T_if_eq 32 rfl rfl (fun _ => ?_) (fun _ => ?_)
  · refine T_loc (ls' := [(0, .inr (.inr (x0))), (1, .inl (x1))]) [0, 1] rfl ?_
    exact s_X12_breaks_32 x0 x1 r1.2
  · refine T_go (S' := (11, [(0, .inr (.inr (x0))), (1, .inl (x1)), (2, .inl (x2)), (3, .inl (x3))], [.inl ((3 : Int32)), .inl (x3)], hp r1.2, 0, 0)) 2 rfl ?_
    refine T_icmp_ne 28 rfl rfl (fun _ => ?_) (fun _ => ?_)
    · refine T_loc (ls' := [(0, .inr (.inr (x0))), (1, .inl (x1))]) [0, 1] rfl ?_
      exact s_X12_breaks_28 x0 x1 r1.2
    · refine T_go (S' := (15, [(0, .inr (.inr (x0))), (1, .inl (x1)), (2, .inl (x2)), (3, .inl (x3))], [.inr (.inr (x0))], hp r1.2, 0, 0)) 1 rfl ?_
      refine T_getR rfl (fun _ => ?_)
      refine T_go (S' := (19, [(0, .inr (.inr (x0))), (1, .inl (x1)), (2, .inl (x2)), (3, .inl (x3))], [.inl (x1), .inr (.inr ((RH x0 27)))], hp r1.2, 0, 0)) 1 rfl ?_
      refine T_iald rfl (fun _ => ?_)
      refine T_go (S' := (25, [(0, .inr (.inr (x0))), (1, .inl (x1)), (2, .inl (x2)), (3, .inl (x3))], [.inl ((1 : Int32)), .inl ((((r1.2.1 (RH x0 27) x1.toNatClampNeg) >>> (x2 &&& 31)) &&& (1 : Int32)))], hp r1.2, 0, 0)) 5 rfl ?_
      refine T_icmp_ne 32 rfl rfl (fun _ => ?_) (fun _ => ?_)
      · refine T_loc (ls' := [(0, .inr (.inr (x0))), (1, .inl (x1))]) [0, 1] rfl ?_
        exact s_X12_breaks_32 x0 x1 r1.2
      · refine T_loc (ls' := [(0, .inr (.inr (x0))), (1, .inl (x1))]) [0, 1] rfl ?_
        exact s_X12_breaks_28 x0 x1 r1.2
def f_X12_atCore_212  (σ : eMem) : Option (Unit × eMem) :=
  some ((), σ)
set_option maxHeartbeats 4000000 in
set_option maxRecDepth 20000 in
theorem s_X12_atCore_212  (σ : eMem) : Snd false none 3 m_X12_atCore (f_X12_atCore_212 σ) (cN iU) (212, [], [], hp σ, 0, 0) := by
  unfold f_X12_atCore_212
  exact T_ret rfl
def f_X12_atCore_129  (σ : eMem) : Option (Unit × eMem) :=
  f_X12_atCore_212  σ
set_option maxHeartbeats 4000000 in
set_option maxRecDepth 20000 in
theorem s_X12_atCore_129  (σ : eMem) : Snd false none 3 m_X12_atCore (f_X12_atCore_129 σ) (cN iU) (129, [], [], hp σ, 0, 0) := by
  unfold f_X12_atCore_129
  refine T_go (S' := (212, [], [], hp σ, 0, 0)) 1 rfl ?_
  refine T_loc (ls' := []) [] rfl ?_
  exact s_X12_atCore_212  σ
def f_X12_atCore_83 (x0 : Nat) (x1 : Int32) (x3 : Int32) (x6 : Int32) (s0 : Nat) (s1 : Int32) (s2 : Int32) (σ : eMem) : Option (Unit × eMem) :=
  if (KH s0).1 = 11 ∧ eix s1 (KH s0).2 = true then eLet ((eup σ.1 s0 s1.toNatClampNeg s2, σ.2) : eMem) (fun σ1 =>
    if (KH x0).1 = 10 then
      if (KH (RH x0 16)).1 = 13 ∧ eix x6 (KH (RH x0 16)).2 = true ∧ eB (0 : Int32) = true then eLet ((eup σ1.1 (RH x0 16) x6.toNatClampNeg (0 : Int32), σ1.2) : eMem) (fun σ2 =>
        if (KH x0).1 = 10 then
          Option.bind (f_X12_uses x0 x6 σ2) (fun r3 =>
            if (KH x0).1 = 10 then
              if (KH (RH x0 17)).1 = 11 ∧ eix x6 (KH (RH x0 17)).2 = true then
                eLet ((r3.2.1 (RH x0 17) x6.toNatClampNeg) : Int32) (fun v4 =>
                  if (KH x0).1 = 10 then
                    if (KH (RH x0 17)).1 = 11 ∧ eix x6 (KH (RH x0 17)).2 = true then eLet ((eup r3.2.1 (RH x0 17) x6.toNatClampNeg (-1 : Int32), r3.2.2) : eMem) (fun σ5 =>
                      if v4 = (-1 : Int32) then
                        f_X12_atCore_129  σ5
                      else
                        if (KH x0).1 = 10 then
                          Option.bind (f_X12_fetches x0 x1 x3 v4 σ5) (fun r6 =>
                            f_X12_atCore_129  r6.2
                            )
                        else none
                      ) else none
                  else none
                  )
              else none
            else none
            )
        else none
        ) else none
    else none
    ) else none
set_option maxHeartbeats 4000000 in
set_option maxRecDepth 20000 in
theorem s_X12_atCore_83 (x0 : Nat) (x1 : Int32) (x3 : Int32) (x6 : Int32) (s0 : Nat) (s1 : Int32) (s2 : Int32) (σ : eMem) : Snd false none 3 m_X12_atCore (f_X12_atCore_83 x0 x1 x3 x6 s0 s1 s2 σ) (cN iU) (83, [(0, .inr (.inr (x0))), (1, .inl (x1)), (3, .inl (x3)), (6, .inl (x6))], [.inl (s2), .inl (s1), .inr (.inr (s0))], hp σ, 0, 0) := by
  unfold f_X12_atCore_83
  refine T_iast rfl (fun _ => ?_)
  refine T_let (Sf := fun σ1 => (84, [(0, .inr (.inr (x0))), (1, .inl (x1)), (3, .inl (x3)), (6, .inl (x6))], [], hp σ1, 0, 0)) (fun σ1 => ?_)
  refine T_go (S' := (85, [(0, .inr (.inr (x0))), (1, .inl (x1)), (3, .inl (x3)), (6, .inl (x6))], [.inr (.inr (x0))], hp σ1, 0, 0)) 1 rfl ?_
  refine T_getR rfl (fun _ => ?_)
  refine T_go (S' := (91, [(0, .inr (.inr (x0))), (1, .inl (x1)), (3, .inl (x3)), (6, .inl (x6))], [.inl ((0 : Int32)), .inl (x6), .inr (.inr ((RH x0 16)))], hp σ1, 0, 0)) 2 rfl ?_
  refine T_bast rfl (fun _ => ?_)
  refine T_let (Sf := fun σ2 => (92, [(0, .inr (.inr (x0))), (1, .inl (x1)), (3, .inl (x3)), (6, .inl (x6))], [], hp σ2, 0, 0)) (fun σ2 => ?_)
  refine T_go (S' := (95, [(0, .inr (.inr (x0))), (1, .inl (x1)), (3, .inl (x3)), (6, .inl (x6))], [.inl (x6), .inr (.inr (x0))], hp σ2, 0, 0)) 2 rfl ?_
  refine T_cv (i := iU) (as := [.inr (.inr (x0)), .inl (x6)]) (rest := []) (st := [.inl (x6), .inr (.inr (x0))]) rfl rfl rfl ⟨lb rfl, lb rfl, lb rfl, lb rfl⟩ (fun _ h => Ew_le (lb rfl) (s_X12_uses x0 x6 σ2 _ h)) (fun _ r3 => ?_)
  show Snd false none _ _ _ (cN iU) (98, [(0, .inr (.inr (x0))), (1, .inl (x1)), (3, .inl (x3)), (6, .inl (x6))], [], hp r3.2, 0, 0)
  refine T_go (S' := (99, [(0, .inr (.inr (x0))), (1, .inl (x1)), (3, .inl (x3)), (6, .inl (x6))], [.inr (.inr (x0))], hp r3.2, 0, 0)) 1 rfl ?_
  refine T_getR rfl (fun _ => ?_)
  refine T_go (S' := (104, [(0, .inr (.inr (x0))), (1, .inl (x1)), (3, .inl (x3)), (6, .inl (x6))], [.inl (x6), .inr (.inr ((RH x0 17)))], hp r3.2, 0, 0)) 1 rfl ?_
  refine T_iald rfl (fun _ => ?_)
  refine T_go (S' := (107, [(7, .inl ((r3.2.1 (RH x0 17) x6.toNatClampNeg))), (0, .inr (.inr (x0))), (1, .inl (x1)), (3, .inl (x3)), (6, .inl (x6))], [], hp r3.2, 0, 0)) 1 rfl ?_
  refine T_let (Sf := fun v4 => (107, [(7, .inl (v4)), (0, .inr (.inr (x0))), (1, .inl (x1)), (3, .inl (x3)), (6, .inl (x6))], [], hp r3.2, 0, 0)) (fun v4 => ?_)
  refine T_go (S' := (108, [(7, .inl (v4)), (0, .inr (.inr (x0))), (1, .inl (x1)), (3, .inl (x3)), (6, .inl (x6))], [.inr (.inr (x0))], hp r3.2, 0, 0)) 1 rfl ?_
  refine T_getR rfl (fun _ => ?_)
  refine T_go (S' := (114, [(7, .inl (v4)), (0, .inr (.inr (x0))), (1, .inl (x1)), (3, .inl (x3)), (6, .inl (x6))], [.inl ((-1 : Int32)), .inl (x6), .inr (.inr ((RH x0 17)))], hp r3.2, 0, 0)) 2 rfl ?_
  refine T_iast rfl (fun _ => ?_)
  refine T_let (Sf := fun σ5 => (115, [(7, .inl (v4)), (0, .inr (.inr (x0))), (1, .inl (x1)), (3, .inl (x3)), (6, .inl (x6))], [], hp σ5, 0, 0)) (fun σ5 => ?_)
  refine T_go (S' := (118, [(7, .inl (v4)), (0, .inr (.inr (x0))), (1, .inl (x1)), (3, .inl (x3)), (6, .inl (x6))], [.inl ((-1 : Int32)), .inl (v4)], hp σ5, 0, 0)) 2 rfl ?_
  refine T_icmp_eq 129 rfl rfl (fun _ => ?_) (fun _ => ?_)
  · refine T_loc (ls' := []) [] rfl ?_
    exact s_X12_atCore_129  σ5
  · refine T_go (S' := (126, [(7, .inl (v4)), (0, .inr (.inr (x0))), (1, .inl (x1)), (3, .inl (x3)), (6, .inl (x6))], [.inl (v4), .inl (x3), .inl (x1), .inr (.inr (x0))], hp σ5, 0, 0)) 4 rfl ?_
    refine T_cv (i := iU) (as := [.inr (.inr (x0)), .inl (x1), .inl (x3), .inl (v4)]) (rest := []) (st := [.inl (v4), .inl (x3), .inl (x1), .inr (.inr (x0))]) rfl rfl rfl ⟨lb rfl, lb rfl, lb rfl, lb rfl⟩ (fun _ h => Ew_le (lb rfl) (s_X12_fetches x0 x1 x3 v4 σ5 _ h)) (fun _ r6 => ?_)
    show Snd false none _ _ _ (cN iU) (129, [(7, .inl (v4)), (0, .inr (.inr (x0))), (1, .inl (x1)), (3, .inl (x3)), (6, .inl (x6))], [], hp r6.2, 0, 0)
    refine T_loc (ls' := []) [] rfl ?_
    exact s_X12_atCore_129  r6.2
def f_X12_atCore_81 (x0 : Nat) (x1 : Int32) (x3 : Int32) (x4 : Int32) (x6 : Int32) (s0 : Nat) (s1 : Int32) (σ : eMem) : Option (Unit × eMem) :=
  f_X12_atCore_83 x0 x1 x3 x6 s0 s1 x4 σ
set_option maxHeartbeats 4000000 in
set_option maxRecDepth 20000 in
theorem s_X12_atCore_81 (x0 : Nat) (x1 : Int32) (x3 : Int32) (x4 : Int32) (x6 : Int32) (s0 : Nat) (s1 : Int32) (σ : eMem) : Snd false none 3 m_X12_atCore (f_X12_atCore_81 x0 x1 x3 x4 x6 s0 s1 σ) (cN iU) (81, [(0, .inr (.inr (x0))), (1, .inl (x1)), (3, .inl (x3)), (4, .inl (x4)), (6, .inl (x6))], [.inl (s1), .inr (.inr (s0))], hp σ, 0, 0) := by
  unfold f_X12_atCore_81
  refine T_go (S' := (83, [(0, .inr (.inr (x0))), (1, .inl (x1)), (3, .inl (x3)), (4, .inl (x4)), (6, .inl (x6))], [.inl (x4), .inl (s1), .inr (.inr (s0))], hp σ, 0, 0)) 1 rfl ?_
  refine T_loc (ls' := [(0, .inr (.inr (x0))), (1, .inl (x1)), (3, .inl (x3)), (6, .inl (x6))]) [0, 1, 2, 4] rfl ?_
  exact s_X12_atCore_83 x0 x1 x3 x6 s0 s1 x4 σ
def f_X12_atCore_205 (x0 : Nat) (x1 : Int32) (x3 : Int32) (σ : eMem) : Option (Unit × eMem) :=
  if (KH x0).1 = 10 then
    Option.bind (f_X12_answers x0 x1 x3 (-1 : Int32) σ) (fun r1 =>
      f_X12_atCore_212  r1.2
      )
  else none
set_option maxHeartbeats 4000000 in
set_option maxRecDepth 20000 in
theorem s_X12_atCore_205 (x0 : Nat) (x1 : Int32) (x3 : Int32) (σ : eMem) : Snd false none 3 m_X12_atCore (f_X12_atCore_205 x0 x1 x3 σ) (cN iU) (205, [(0, .inr (.inr (x0))), (1, .inl (x1)), (3, .inl (x3))], [], hp σ, 0, 0) := by
  unfold f_X12_atCore_205
  refine T_go (S' := (209, [(0, .inr (.inr (x0))), (1, .inl (x1)), (3, .inl (x3))], [.inl ((-1 : Int32)), .inl (x3), .inl (x1), .inr (.inr (x0))], hp σ, 0, 0)) 4 rfl ?_
  refine T_cv (i := iU) (as := [.inr (.inr (x0)), .inl (x1), .inl (x3), .inl ((-1 : Int32))]) (rest := []) (st := [.inl ((-1 : Int32)), .inl (x3), .inl (x1), .inr (.inr (x0))]) rfl rfl rfl ⟨lb rfl, lb rfl, lb rfl, lb rfl⟩ (fun _ h => Ew_le (lb rfl) (s_X12_answers x0 x1 x3 (-1 : Int32) σ _ h)) (fun _ r1 => ?_)
  show Snd false none _ _ _ (cN iU) (212, [(0, .inr (.inr (x0))), (1, .inl (x1)), (3, .inl (x3))], [], hp r1.2, 0, 0)
  refine T_loc (ls' := []) [] rfl ?_
  exact s_X12_atCore_212  r1.2
def f_X12_atCore_180 (x0 : Nat) (x1 : Int32) (x3 : Int32) (x6 : Int32) (σ : eMem) : Option (Unit × eMem) :=
  if x6 = (-1 : Int32) then
    f_X12_atCore_205 x0 x1 x3 σ
  else
    if (KH x0).1 = 10 then
      if (KH (RH x0 13)).1 = 11 ∧ eix x6 (KH (RH x0 13)).2 = true then
        if ¬ (σ.1 (RH x0 13) x6.toNatClampNeg) = (4 : Int32) then
          f_X12_atCore_205 x0 x1 x3 σ
        else
          if (KH x0).1 = 10 then
            if (KH (RH x0 16)).1 = 13 ∧ eix x6 (KH (RH x0 16)).2 = true ∧ eB (1 : Int32) = true then eLet ((eup σ.1 (RH x0 16) x6.toNatClampNeg (1 : Int32), σ.2) : eMem) (fun σ1 =>
              f_X12_atCore_205 x0 x1 x3 σ1
              ) else none
          else none
      else none
    else none
set_option maxHeartbeats 4000000 in
set_option maxRecDepth 20000 in
theorem s_X12_atCore_180 (x0 : Nat) (x1 : Int32) (x3 : Int32) (x6 : Int32) (σ : eMem) : Snd false none 3 m_X12_atCore (f_X12_atCore_180 x0 x1 x3 x6 σ) (cN iU) (180, [(0, .inr (.inr (x0))), (1, .inl (x1)), (3, .inl (x3)), (6, .inl (x6))], [], hp σ, 0, 0) := by
  unfold f_X12_atCore_180
  refine T_go (S' := (183, [(0, .inr (.inr (x0))), (1, .inl (x1)), (3, .inl (x3)), (6, .inl (x6))], [.inl ((-1 : Int32)), .inl (x6)], hp σ, 0, 0)) 2 rfl ?_
  refine T_icmp_eq 205 rfl rfl (fun _ => ?_) (fun _ => ?_)
  · refine T_loc (ls' := [(0, .inr (.inr (x0))), (1, .inl (x1)), (3, .inl (x3))]) [0, 1, 2] rfl ?_
    exact s_X12_atCore_205 x0 x1 x3 σ
  · refine T_go (S' := (187, [(0, .inr (.inr (x0))), (1, .inl (x1)), (3, .inl (x3)), (6, .inl (x6))], [.inr (.inr (x0))], hp σ, 0, 0)) 1 rfl ?_
    refine T_getR rfl (fun _ => ?_)
    refine T_go (S' := (192, [(0, .inr (.inr (x0))), (1, .inl (x1)), (3, .inl (x3)), (6, .inl (x6))], [.inl (x6), .inr (.inr ((RH x0 13)))], hp σ, 0, 0)) 1 rfl ?_
    refine T_iald rfl (fun _ => ?_)
    refine T_go (S' := (194, [(0, .inr (.inr (x0))), (1, .inl (x1)), (3, .inl (x3)), (6, .inl (x6))], [.inl ((4 : Int32)), .inl ((σ.1 (RH x0 13) x6.toNatClampNeg))], hp σ, 0, 0)) 1 rfl ?_
    refine T_icmp_ne 205 rfl rfl (fun _ => ?_) (fun _ => ?_)
    · refine T_loc (ls' := [(0, .inr (.inr (x0))), (1, .inl (x1)), (3, .inl (x3))]) [0, 1, 2] rfl ?_
      exact s_X12_atCore_205 x0 x1 x3 σ
    · refine T_go (S' := (198, [(0, .inr (.inr (x0))), (1, .inl (x1)), (3, .inl (x3)), (6, .inl (x6))], [.inr (.inr (x0))], hp σ, 0, 0)) 1 rfl ?_
      refine T_getR rfl (fun _ => ?_)
      refine T_go (S' := (204, [(0, .inr (.inr (x0))), (1, .inl (x1)), (3, .inl (x3)), (6, .inl (x6))], [.inl ((1 : Int32)), .inl (x6), .inr (.inr ((RH x0 16)))], hp σ, 0, 0)) 2 rfl ?_
      refine T_bast rfl (fun _ => ?_)
      refine T_let (Sf := fun σ1 => (205, [(0, .inr (.inr (x0))), (1, .inl (x1)), (3, .inl (x3)), (6, .inl (x6))], [], hp σ1, 0, 0)) (fun σ1 => ?_)
      refine T_loc (ls' := [(0, .inr (.inr (x0))), (1, .inl (x1)), (3, .inl (x3))]) [0, 1, 2] rfl ?_
      exact s_X12_atCore_205 x0 x1 x3 σ1
def f_X12_atCore (x0 : Nat) (x1 : Int32) (x2 : Int32) (x3 : Int32) (x4 : Int32) (x5 : Int32) (σ : eMem) : Option (Unit × eMem) :=
  if (KH x0).1 = 10 then
    Option.bind (f_X12_placeOf x0 x1 x3 σ) (fun r1 =>
      if ¬ x2 = (7 : Int32) then
        if ¬ x2 = (6 : Int32) then
          if (KH x0).1 = 10 then
            Option.bind (f_X12_breaks x0 x1 x3 x2 r1.2) (fun r2 =>
              if x2 = (5 : Int32) then
                if r1.1 = (-1 : Int32) then
                  f_X12_atCore_180 x0 x1 x3 r1.1 r2.2
                else
                  if (KH x0).1 = 10 then
                    if (KH (RH x0 13)).1 = 11 ∧ eix r1.1 (KH (RH x0 13)).2 = true then
                      if ¬ (r2.2.1 (RH x0 13) r1.1.toNatClampNeg) = (1 : Int32) then
                        f_X12_atCore_180 x0 x1 x3 r1.1 r2.2
                      else
                        if (KH x0).1 = 10 then
                          if (KH (RH x0 13)).1 = 11 ∧ eix r1.1 (KH (RH x0 13)).2 = true then eLet ((eup r2.2.1 (RH x0 13) r1.1.toNatClampNeg (0 : Int32), r2.2.2) : eMem) (fun σ3 =>
                            f_X12_atCore_205 x0 x1 x3 σ3
                            ) else none
                        else none
                    else none
                  else none
              else
                if (KH x0).1 = 10 then
                  Option.bind (f_X12_fetches x0 x1 x3 x2 r2.2) (fun r4 =>
                    some ((), r4.2)
                    )
                else none
              )
          else none
        else
          if (KH x0).1 = 10 then
            if (KH (RH x0 14)).1 = 11 ∧ eix r1.1 (KH (RH x0 14)).2 = true then eLet ((eup r1.2.1 (RH x0 14) r1.1.toNatClampNeg x5, r1.2.2) : eMem) (fun σ5 =>
              if (KH x0).1 = 10 then
                if ¬ x4 = (1 : Int32) then
                  f_X12_atCore_81 x0 x1 x3 x4 r1.1 (RH x0 13) r1.1 σ5
                else
                  if (KH x0).1 = 10 then
                    if (KH (RH x0 16)).1 = 13 ∧ eix r1.1 (KH (RH x0 16)).2 = true then
                      if (σ5.1 (RH x0 16) r1.1.toNatClampNeg) = (0 : Int32) then
                        f_X12_atCore_81 x0 x1 x3 x4 r1.1 (RH x0 13) r1.1 σ5
                      else
                        if (KH x0).1 = 10 then
                          if (KH (RH x0 13)).1 = 11 ∧ eix r1.1 (KH (RH x0 13)).2 = true then
                            if ¬ (σ5.1 (RH x0 13) r1.1.toNatClampNeg) = (4 : Int32) then
                              f_X12_atCore_81 x0 x1 x3 x4 r1.1 (RH x0 13) r1.1 σ5
                            else
                              f_X12_atCore_83 x0 x1 x3 r1.1 (RH x0 13) r1.1 (0 : Int32) σ5
                          else none
                        else none
                    else none
                  else none
              else none
              ) else none
          else none
      else
        if (KH x0).1 = 10 then
          if (KH (RH x0 19)).1 = 11 ∧ eix (((16 : Int32) * x1) + x3) (KH (RH x0 19)).2 = true then eLet ((eup r1.2.1 (RH x0 19) (((16 : Int32) * x1) + x3).toNatClampNeg (-1 : Int32), r1.2.2) : eMem) (fun σ6 =>
            f_X12_atCore_212  σ6
            ) else none
        else none
      )
  else none
set_option maxHeartbeats 4000000 in
set_option maxRecDepth 20000 in
theorem s_X12_atCore (x0 : Nat) (x1 : Int32) (x2 : Int32) (x3 : Int32) (x4 : Int32) (x5 : Int32) (σ : eMem) : ∀ r, f_X12_atCore x0 x1 x2 x3 x4 x5 σ = some r → Ew false 4 160 [.inr (.inr (x0)), .inl (x1), .inl (x2), .inl (x3), .inl (x4), .inl (x5)] (hp σ) (cN iU r) := by
  refine T_meth (md := m_X12_atCore) (d0 := 3) (cv := (cN iU)) rfl (lb rfl) (lb rfl) ?_
  unfold f_X12_atCore
  show Snd false none _ _ _ _ (0, [(0, .inr (.inr (x0))), (1, .inl (x1)), (2, .inl (x2)), (3, .inl (x3)), (4, .inl (x4)), (5, .inl (x5))], [], hp σ, 0, 0)
  refine T_go (S' := (3, [(0, .inr (.inr (x0))), (1, .inl (x1)), (2, .inl (x2)), (3, .inl (x3)), (4, .inl (x4)), (5, .inl (x5))], [.inl (x3), .inl (x1), .inr (.inr (x0))], hp σ, 0, 0)) 3 rfl ?_
  refine T_cv (i := iI) (as := [.inr (.inr (x0)), .inl (x1), .inl (x3)]) (rest := []) (st := [.inl (x3), .inl (x1), .inr (.inr (x0))]) rfl rfl rfl ⟨lb rfl, lb rfl, lb rfl, lb rfl⟩ (fun _ h => Ew_le (lb rfl) (s_X12_placeOf x0 x1 x3 σ _ h)) (fun _ r1 => ?_)
  show Snd false none _ _ _ (cN iU) (6, [(0, .inr (.inr (x0))), (1, .inl (x1)), (2, .inl (x2)), (3, .inl (x3)), (4, .inl (x4)), (5, .inl (x5))], [.inl (r1.1)], hp r1.2, 0, 0)
  refine T_go (S' := (11, [(6, .inl (r1.1)), (0, .inr (.inr (x0))), (1, .inl (x1)), (2, .inl (x2)), (3, .inl (x3)), (4, .inl (x4)), (5, .inl (x5))], [.inl ((7 : Int32)), .inl (x2)], hp r1.2, 0, 0)) 3 rfl ?_
  refine T_icmp_ne 29 rfl rfl (fun _ => ?_) (fun _ => ?_)
  · refine T_go (S' := (32, [(6, .inl (r1.1)), (0, .inr (.inr (x0))), (1, .inl (x1)), (2, .inl (x2)), (3, .inl (x3)), (4, .inl (x4)), (5, .inl (x5))], [.inl ((6 : Int32)), .inl (x2)], hp r1.2, 0, 0)) 2 rfl ?_
    refine T_icmp_ne 132 rfl rfl (fun _ => ?_) (fun _ => ?_)
    · refine T_go (S' := (136, [(6, .inl (r1.1)), (0, .inr (.inr (x0))), (1, .inl (x1)), (2, .inl (x2)), (3, .inl (x3)), (4, .inl (x4)), (5, .inl (x5))], [.inl (x2), .inl (x3), .inl (x1), .inr (.inr (x0))], hp r1.2, 0, 0)) 4 rfl ?_
      refine T_cv (i := iU) (as := [.inr (.inr (x0)), .inl (x1), .inl (x3), .inl (x2)]) (rest := []) (st := [.inl (x2), .inl (x3), .inl (x1), .inr (.inr (x0))]) rfl rfl rfl ⟨lb rfl, lb rfl, lb rfl, lb rfl⟩ (fun _ h => Ew_le (lb rfl) (s_X12_breaks x0 x1 x3 x2 r1.2 _ h)) (fun _ r2 => ?_)
      show Snd false none _ _ _ (cN iU) (139, [(6, .inl (r1.1)), (0, .inr (.inr (x0))), (1, .inl (x1)), (2, .inl (x2)), (3, .inl (x3)), (4, .inl (x4)), (5, .inl (x5))], [], hp r2.2, 0, 0)
      refine T_go (S' := (141, [(6, .inl (r1.1)), (0, .inr (.inr (x0))), (1, .inl (x1)), (2, .inl (x2)), (3, .inl (x3)), (4, .inl (x4)), (5, .inl (x5))], [.inl ((5 : Int32)), .inl (x2)], hp r2.2, 0, 0)) 2 rfl ?_
      refine T_icmp_eq 152 rfl rfl (fun _ => ?_) (fun _ => ?_)
      · refine T_go (S' := (155, [(6, .inl (r1.1)), (0, .inr (.inr (x0))), (1, .inl (x1)), (2, .inl (x2)), (3, .inl (x3)), (4, .inl (x4)), (5, .inl (x5))], [.inl ((-1 : Int32)), .inl (r1.1)], hp r2.2, 0, 0)) 2 rfl ?_
        refine T_icmp_eq 180 rfl rfl (fun _ => ?_) (fun _ => ?_)
        · refine T_loc (ls' := [(0, .inr (.inr (x0))), (1, .inl (x1)), (3, .inl (x3)), (6, .inl (r1.1))]) [1, 2, 4, 0] rfl ?_
          exact s_X12_atCore_180 x0 x1 x3 r1.1 r2.2
        · refine T_go (S' := (159, [(6, .inl (r1.1)), (0, .inr (.inr (x0))), (1, .inl (x1)), (2, .inl (x2)), (3, .inl (x3)), (4, .inl (x4)), (5, .inl (x5))], [.inr (.inr (x0))], hp r2.2, 0, 0)) 1 rfl ?_
          refine T_getR rfl (fun _ => ?_)
          refine T_go (S' := (164, [(6, .inl (r1.1)), (0, .inr (.inr (x0))), (1, .inl (x1)), (2, .inl (x2)), (3, .inl (x3)), (4, .inl (x4)), (5, .inl (x5))], [.inl (r1.1), .inr (.inr ((RH x0 13)))], hp r2.2, 0, 0)) 1 rfl ?_
          refine T_iald rfl (fun _ => ?_)
          refine T_go (S' := (166, [(6, .inl (r1.1)), (0, .inr (.inr (x0))), (1, .inl (x1)), (2, .inl (x2)), (3, .inl (x3)), (4, .inl (x4)), (5, .inl (x5))], [.inl ((1 : Int32)), .inl ((r2.2.1 (RH x0 13) r1.1.toNatClampNeg))], hp r2.2, 0, 0)) 1 rfl ?_
          refine T_icmp_ne 180 rfl rfl (fun _ => ?_) (fun _ => ?_)
          · refine T_loc (ls' := [(0, .inr (.inr (x0))), (1, .inl (x1)), (3, .inl (x3)), (6, .inl (r1.1))]) [1, 2, 4, 0] rfl ?_
            exact s_X12_atCore_180 x0 x1 x3 r1.1 r2.2
          · refine T_go (S' := (170, [(6, .inl (r1.1)), (0, .inr (.inr (x0))), (1, .inl (x1)), (2, .inl (x2)), (3, .inl (x3)), (4, .inl (x4)), (5, .inl (x5))], [.inr (.inr (x0))], hp r2.2, 0, 0)) 1 rfl ?_
            refine T_getR rfl (fun _ => ?_)
            refine T_go (S' := (176, [(6, .inl (r1.1)), (0, .inr (.inr (x0))), (1, .inl (x1)), (2, .inl (x2)), (3, .inl (x3)), (4, .inl (x4)), (5, .inl (x5))], [.inl ((0 : Int32)), .inl (r1.1), .inr (.inr ((RH x0 13)))], hp r2.2, 0, 0)) 2 rfl ?_
            refine T_iast rfl (fun _ => ?_)
            refine T_let (Sf := fun σ3 => (177, [(6, .inl (r1.1)), (0, .inr (.inr (x0))), (1, .inl (x1)), (2, .inl (x2)), (3, .inl (x3)), (4, .inl (x4)), (5, .inl (x5))], [], hp σ3, 0, 0)) (fun σ3 => ?_)
            refine T_go (S' := (205, [(6, .inl (r1.1)), (0, .inr (.inr (x0))), (1, .inl (x1)), (2, .inl (x2)), (3, .inl (x3)), (4, .inl (x4)), (5, .inl (x5))], [], hp σ3, 0, 0)) 1 rfl ?_
            refine T_loc (ls' := [(0, .inr (.inr (x0))), (1, .inl (x1)), (3, .inl (x3))]) [1, 2, 4] rfl ?_
            exact s_X12_atCore_205 x0 x1 x3 σ3
      · refine T_go (S' := (148, [(6, .inl (r1.1)), (0, .inr (.inr (x0))), (1, .inl (x1)), (2, .inl (x2)), (3, .inl (x3)), (4, .inl (x4)), (5, .inl (x5))], [.inl (x2), .inl (x3), .inl (x1), .inr (.inr (x0))], hp r2.2, 0, 0)) 4 rfl ?_
        refine T_cv (i := iU) (as := [.inr (.inr (x0)), .inl (x1), .inl (x3), .inl (x2)]) (rest := []) (st := [.inl (x2), .inl (x3), .inl (x1), .inr (.inr (x0))]) rfl rfl rfl ⟨lb rfl, lb rfl, lb rfl, lb rfl⟩ (fun _ h => Ew_le (lb rfl) (s_X12_fetches x0 x1 x3 x2 r2.2 _ h)) (fun _ r4 => ?_)
        show Snd false none _ _ _ (cN iU) (151, [(6, .inl (r1.1)), (0, .inr (.inr (x0))), (1, .inl (x1)), (2, .inl (x2)), (3, .inl (x3)), (4, .inl (x4)), (5, .inl (x5))], [], hp r4.2, 0, 0)
        exact T_ret rfl
    · refine T_go (S' := (36, [(6, .inl (r1.1)), (0, .inr (.inr (x0))), (1, .inl (x1)), (2, .inl (x2)), (3, .inl (x3)), (4, .inl (x4)), (5, .inl (x5))], [.inr (.inr (x0))], hp r1.2, 0, 0)) 1 rfl ?_
      refine T_getR rfl (fun _ => ?_)
      refine T_go (S' := (43, [(6, .inl (r1.1)), (0, .inr (.inr (x0))), (1, .inl (x1)), (2, .inl (x2)), (3, .inl (x3)), (4, .inl (x4)), (5, .inl (x5))], [.inl (x5), .inl (r1.1), .inr (.inr ((RH x0 14)))], hp r1.2, 0, 0)) 2 rfl ?_
      refine T_iast rfl (fun _ => ?_)
      refine T_let (Sf := fun σ5 => (44, [(6, .inl (r1.1)), (0, .inr (.inr (x0))), (1, .inl (x1)), (2, .inl (x2)), (3, .inl (x3)), (4, .inl (x4)), (5, .inl (x5))], [], hp σ5, 0, 0)) (fun σ5 => ?_)
      refine T_go (S' := (45, [(6, .inl (r1.1)), (0, .inr (.inr (x0))), (1, .inl (x1)), (2, .inl (x2)), (3, .inl (x3)), (4, .inl (x4)), (5, .inl (x5))], [.inr (.inr (x0))], hp σ5, 0, 0)) 1 rfl ?_
      refine T_getR rfl (fun _ => ?_)
      refine T_go (S' := (53, [(6, .inl (r1.1)), (0, .inr (.inr (x0))), (1, .inl (x1)), (2, .inl (x2)), (3, .inl (x3)), (4, .inl (x4)), (5, .inl (x5))], [.inl ((1 : Int32)), .inl (x4), .inl (r1.1), .inr (.inr ((RH x0 13)))], hp σ5, 0, 0)) 3 rfl ?_
      refine T_icmp_ne 81 rfl rfl (fun _ => ?_) (fun _ => ?_)
      · refine T_loc (ls' := [(0, .inr (.inr (x0))), (1, .inl (x1)), (3, .inl (x3)), (4, .inl (x4)), (6, .inl (r1.1))]) [1, 2, 4, 5, 0] rfl ?_
        exact s_X12_atCore_81 x0 x1 x3 x4 r1.1 (RH x0 13) r1.1 σ5
      · refine T_go (S' := (57, [(6, .inl (r1.1)), (0, .inr (.inr (x0))), (1, .inl (x1)), (2, .inl (x2)), (3, .inl (x3)), (4, .inl (x4)), (5, .inl (x5))], [.inr (.inr (x0)), .inl (r1.1), .inr (.inr ((RH x0 13)))], hp σ5, 0, 0)) 1 rfl ?_
        refine T_getR rfl (fun _ => ?_)
        refine T_go (S' := (62, [(6, .inl (r1.1)), (0, .inr (.inr (x0))), (1, .inl (x1)), (2, .inl (x2)), (3, .inl (x3)), (4, .inl (x4)), (5, .inl (x5))], [.inl (r1.1), .inr (.inr ((RH x0 16))), .inl (r1.1), .inr (.inr ((RH x0 13)))], hp σ5, 0, 0)) 1 rfl ?_
        refine T_bald rfl (fun _ => ?_)
        refine T_if_eq 81 rfl rfl (fun _ => ?_) (fun _ => ?_)
        · refine T_loc (ls' := [(0, .inr (.inr (x0))), (1, .inl (x1)), (3, .inl (x3)), (4, .inl (x4)), (6, .inl (r1.1))]) [1, 2, 4, 5, 0] rfl ?_
          exact s_X12_atCore_81 x0 x1 x3 x4 r1.1 (RH x0 13) r1.1 σ5
        · refine T_go (S' := (67, [(6, .inl (r1.1)), (0, .inr (.inr (x0))), (1, .inl (x1)), (2, .inl (x2)), (3, .inl (x3)), (4, .inl (x4)), (5, .inl (x5))], [.inr (.inr (x0)), .inl (r1.1), .inr (.inr ((RH x0 13)))], hp σ5, 0, 0)) 1 rfl ?_
          refine T_getR rfl (fun _ => ?_)
          refine T_go (S' := (72, [(6, .inl (r1.1)), (0, .inr (.inr (x0))), (1, .inl (x1)), (2, .inl (x2)), (3, .inl (x3)), (4, .inl (x4)), (5, .inl (x5))], [.inl (r1.1), .inr (.inr ((RH x0 13))), .inl (r1.1), .inr (.inr ((RH x0 13)))], hp σ5, 0, 0)) 1 rfl ?_
          refine T_iald rfl (fun _ => ?_)
          refine T_go (S' := (74, [(6, .inl (r1.1)), (0, .inr (.inr (x0))), (1, .inl (x1)), (2, .inl (x2)), (3, .inl (x3)), (4, .inl (x4)), (5, .inl (x5))], [.inl ((4 : Int32)), .inl ((σ5.1 (RH x0 13) r1.1.toNatClampNeg)), .inl (r1.1), .inr (.inr ((RH x0 13)))], hp σ5, 0, 0)) 1 rfl ?_
          refine T_icmp_ne 81 rfl rfl (fun _ => ?_) (fun _ => ?_)
          · refine T_loc (ls' := [(0, .inr (.inr (x0))), (1, .inl (x1)), (3, .inl (x3)), (4, .inl (x4)), (6, .inl (r1.1))]) [1, 2, 4, 5, 0] rfl ?_
            exact s_X12_atCore_81 x0 x1 x3 x4 r1.1 (RH x0 13) r1.1 σ5
          · refine T_go (S' := (83, [(6, .inl (r1.1)), (0, .inr (.inr (x0))), (1, .inl (x1)), (2, .inl (x2)), (3, .inl (x3)), (4, .inl (x4)), (5, .inl (x5))], [.inl ((0 : Int32)), .inl (r1.1), .inr (.inr ((RH x0 13)))], hp σ5, 0, 0)) 2 rfl ?_
            refine T_loc (ls' := [(0, .inr (.inr (x0))), (1, .inl (x1)), (3, .inl (x3)), (6, .inl (r1.1))]) [1, 2, 4, 0] rfl ?_
            exact s_X12_atCore_83 x0 x1 x3 r1.1 (RH x0 13) r1.1 (0 : Int32) σ5
  · refine T_go (S' := (15, [(6, .inl (r1.1)), (0, .inr (.inr (x0))), (1, .inl (x1)), (2, .inl (x2)), (3, .inl (x3)), (4, .inl (x4)), (5, .inl (x5))], [.inr (.inr (x0))], hp r1.2, 0, 0)) 1 rfl ?_
    refine T_getR rfl (fun _ => ?_)
    refine T_go (S' := (25, [(6, .inl (r1.1)), (0, .inr (.inr (x0))), (1, .inl (x1)), (2, .inl (x2)), (3, .inl (x3)), (4, .inl (x4)), (5, .inl (x5))], [.inl ((-1 : Int32)), .inl ((((16 : Int32) * x1) + x3)), .inr (.inr ((RH x0 19)))], hp r1.2, 0, 0)) 6 rfl ?_
    refine T_iast rfl (fun _ => ?_)
    refine T_let (Sf := fun σ6 => (26, [(6, .inl (r1.1)), (0, .inr (.inr (x0))), (1, .inl (x1)), (2, .inl (x2)), (3, .inl (x3)), (4, .inl (x4)), (5, .inl (x5))], [], hp σ6, 0, 0)) (fun σ6 => ?_)
    refine T_go (S' := (212, [(6, .inl (r1.1)), (0, .inr (.inr (x0))), (1, .inl (x1)), (2, .inl (x2)), (3, .inl (x3)), (4, .inl (x4)), (5, .inl (x5))], [], hp σ6, 0, 0)) 1 rfl ?_
    refine T_loc (ls' := []) [] rfl ?_
    exact s_X12_atCore_212  σ6
