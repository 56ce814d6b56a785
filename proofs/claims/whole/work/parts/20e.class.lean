/-! what the methods do -/
def f_X5_nextOrder_85 : Nat → Nat → Int32 → Int32 → eMem → Option (Int32 × eMem)
  | 0, _, _, _, _ => none
  | n + 1, x0, x4, x5, σ =>
    if x5 ≤ x4 then
      if eB (1 : Int32) = true then some ((1 : Int32), σ) else none
    else
      if (KH x0).1 = 4 then
        Option.bind (f_X5_swap x0 x4 x5 σ) (fun r1 =>
          f_X5_nextOrder_85 n x0 (x4 + (1 : Int32)) (x5 + (-1 : Int32)) r1.2
          )
      else none
set_option maxHeartbeats 4000000 in
set_option maxRecDepth 20000 in
theorem s_X5_nextOrder_85 : ∀ (n : Nat) (x0 : Nat) (x4 : Int32) (x5 : Int32) (σ : eMem), Snd false none 1 m_X5_nextOrder (f_X5_nextOrder_85 n x0 x4 x5 σ) (cN iI) (85, [(0, .inr (.inr (x0))), (4, .inl (x4)), (5, .inl (x5))], [], hp σ, 0, 0) := by
  intro n
  induction n with
  | zero => exact fun _ _ _ _ => T_none
  | succ n ih =>
    intro x0 x4 x5 σ
    unfold f_X5_nextOrder_85
    refine T_go (S' := (89, [(0, .inr (.inr (x0))), (4, .inl (x4)), (5, .inl (x5))], [.inl (x5), .inl (x4)], hp σ, 0, 0)) 2 rfl ?_
    refine T_icmp_ge 109 rfl rfl (fun _ => ?_) (fun _ => ?_)
    · refine T_go (S' := (110, [(0, .inr (.inr (x0))), (4, .inl (x4)), (5, .inl (x5))], [.inl ((1 : Int32))], hp σ, 0, 0)) 1 rfl ?_
      exact T_chkr rfl
    · refine T_go (S' := (97, [(0, .inr (.inr (x0))), (4, .inl (x4)), (5, .inl (x5))], [.inl (x5), .inl (x4), .inr (.inr (x0))], hp σ, 0, 0)) 3 rfl ?_
      refine T_cv (i := iU) (as := [.inr (.inr (x0)), .inl (x4), .inl (x5)]) (rest := []) (st := [.inl (x5), .inl (x4), .inr (.inr (x0))]) rfl rfl rfl ⟨lb rfl, lb rfl, lb rfl, lb rfl⟩ (fun _ h => Ew_le (lb rfl) (s_X5_swap x0 x4 x5 σ _ h)) (fun _ r1 => ?_)
      show Snd false none _ _ _ (cN iI) (100, [(0, .inr (.inr (x0))), (4, .inl (x4)), (5, .inl (x5))], [], hp r1.2, 0, 0)
      refine T_go (S' := (85, [(5, .inl ((x5 + (-1 : Int32)))), (4, .inl ((x4 + (1 : Int32)))), (0, .inr (.inr (x0)))], [], hp r1.2, 0, 0)) 3 rfl ?_
      refine T_loc (ls' := [(0, .inr (.inr (x0))), (4, .inl ((x4 + (1 : Int32)))), (5, .inl ((x5 + (-1 : Int32))))]) [2, 1, 0] rfl ?_
      exact ih x0 (x4 + (1 : Int32)) (x5 + (-1 : Int32)) r1.2
def f_X5_nextOrder_69 (x0 : Nat) (x1 : Int32) (x2 : Int32) (x3 : Int32) (σ : eMem) : Option (Int32 × eMem) :=
  if (KH x0).1 = 4 then
    Option.bind (f_X5_swap x0 x2 x3 σ) (fun r1 =>
      eLet ((x2 + (1 : Int32)) : Int32) (fun v2 =>
        eLet ((x1 - (1 : Int32)) : Int32) (fun v3 =>
          f_X5_nextOrder_85 1000000 x0 v2 v3 r1.2
          )
        )
      )
  else none
set_option maxHeartbeats 4000000 in
set_option maxRecDepth 20000 in
theorem s_X5_nextOrder_69 (x0 : Nat) (x1 : Int32) (x2 : Int32) (x3 : Int32) (σ : eMem) : Snd false none 1 m_X5_nextOrder (f_X5_nextOrder_69 x0 x1 x2 x3 σ) (cN iI) (69, [(0, .inr (.inr (x0))), (1, .inl (x1)), (2, .inl (x2)), (3, .inl (x3))], [], hp σ, 0, 0) := by
  unfold f_X5_nextOrder_69
  refine T_go (S' := (72, [(0, .inr (.inr (x0))), (1, .inl (x1)), (2, .inl (x2)), (3, .inl (x3))], [.inl (x3), .inl (x2), .inr (.inr (x0))], hp σ, 0, 0)) 3 rfl ?_
  refine T_cv (i := iU) (as := [.inr (.inr (x0)), .inl (x2), .inl (x3)]) (rest := []) (st := [.inl (x3), .inl (x2), .inr (.inr (x0))]) rfl rfl rfl ⟨lb rfl, lb rfl, lb rfl, lb rfl⟩ (fun _ h => Ew_le (lb rfl) (s_X5_swap x0 x2 x3 σ _ h)) (fun _ r1 => ?_)
  show Snd false none _ _ _ (cN iI) (75, [(0, .inr (.inr (x0))), (1, .inl (x1)), (2, .inl (x2)), (3, .inl (x3))], [], hp r1.2, 0, 0)
  refine T_go (S' := (80, [(4, .inl ((x2 + (1 : Int32)))), (0, .inr (.inr (x0))), (1, .inl (x1)), (2, .inl (x2)), (3, .inl (x3))], [], hp r1.2, 0, 0)) 4 rfl ?_
  refine T_let (Sf := fun v2 => (80, [(4, .inl (v2)), (0, .inr (.inr (x0))), (1, .inl (x1)), (2, .inl (x2)), (3, .inl (x3))], [], hp r1.2, 0, 0)) (fun v2 => ?_)
  refine T_go (S' := (85, [(5, .inl ((x1 - (1 : Int32)))), (4, .inl (v2)), (0, .inr (.inr (x0))), (1, .inl (x1)), (2, .inl (x2)), (3, .inl (x3))], [], hp r1.2, 0, 0)) 4 rfl ?_
  refine T_let (Sf := fun v3 => (85, [(5, .inl (v3)), (4, .inl (v2)), (0, .inr (.inr (x0))), (1, .inl (x1)), (2, .inl (x2)), (3, .inl (x3))], [], hp r1.2, 0, 0)) (fun v3 => ?_)
  refine T_loc (ls' := [(0, .inr (.inr (x0))), (4, .inl (v2)), (5, .inl (v3))]) [2, 1, 0] rfl ?_
  exact s_X5_nextOrder_85 1000000 x0 v2 v3 r1.2
def f_X5_nextOrder_41 : Nat → Nat → Int32 → Int32 → Int32 → eMem → Option (Int32 × eMem)
  | 0, _, _, _, _, _ => none
  | n + 1, x0, x1, x2, x3, σ =>
    if x3 ≤ (x2 + (1 : Int32)) then
      f_X5_nextOrder_69 x0 x1 x2 x3 σ
    else
      if (KH x0).1 = 4 then
        if (KH (RH x0 0)).1 = 11 ∧ eix x3 (KH (RH x0 0)).2 = true then
          if (KH x0).1 = 4 then
            if (KH (RH x0 0)).1 = 11 ∧ eix x2 (KH (RH x0 0)).2 = true then
              if (σ.1 (RH x0 0) x2.toNatClampNeg) ≤ (σ.1 (RH x0 0) x3.toNatClampNeg) then
                f_X5_nextOrder_69 x0 x1 x2 x3 σ
              else
                f_X5_nextOrder_41 n x0 x1 x2 (x3 + (-1 : Int32)) σ
            else none
          else none
        else none
      else none
set_option maxHeartbeats 4000000 in
set_option maxRecDepth 20000 in
theorem s_X5_nextOrder_41 : ∀ (n : Nat) (x0 : Nat) (x1 : Int32) (x2 : Int32) (x3 : Int32) (σ : eMem), Snd false none 1 m_X5_nextOrder (f_X5_nextOrder_41 n x0 x1 x2 x3 σ) (cN iI) (41, [(0, .inr (.inr (x0))), (1, .inl (x1)), (2, .inl (x2)), (3, .inl (x3))], [], hp σ, 0, 0) := by
  intro n
  induction n with
  | zero => exact fun _ _ _ _ _ => T_none
  | succ n ih =>
    intro x0 x1 x2 x3 σ
    unfold f_X5_nextOrder_41
    refine T_go (S' := (45, [(0, .inr (.inr (x0))), (1, .inl (x1)), (2, .inl (x2)), (3, .inl (x3))], [.inl ((x2 + (1 : Int32))), .inl (x3)], hp σ, 0, 0)) 4 rfl ?_
    refine T_icmp_le 69 rfl rfl (fun _ => ?_) (fun _ => ?_)
    · refine T_loc (ls' := [(0, .inr (.inr (x0))), (1, .inl (x1)), (2, .inl (x2)), (3, .inl (x3))]) [0, 1, 2, 3] rfl ?_
      exact s_X5_nextOrder_69 x0 x1 x2 x3 σ
    · refine T_go (S' := (49, [(0, .inr (.inr (x0))), (1, .inl (x1)), (2, .inl (x2)), (3, .inl (x3))], [.inr (.inr (x0))], hp σ, 0, 0)) 1 rfl ?_
      refine T_getR rfl (fun _ => ?_)
      refine T_go (S' := (53, [(0, .inr (.inr (x0))), (1, .inl (x1)), (2, .inl (x2)), (3, .inl (x3))], [.inl (x3), .inr (.inr ((RH x0 0)))], hp σ, 0, 0)) 1 rfl ?_
      refine T_iald rfl (fun _ => ?_)
      refine T_go (S' := (55, [(0, .inr (.inr (x0))), (1, .inl (x1)), (2, .inl (x2)), (3, .inl (x3))], [.inr (.inr (x0)), .inl ((σ.1 (RH x0 0) x3.toNatClampNeg))], hp σ, 0, 0)) 1 rfl ?_
      refine T_getR rfl (fun _ => ?_)
      refine T_go (S' := (59, [(0, .inr (.inr (x0))), (1, .inl (x1)), (2, .inl (x2)), (3, .inl (x3))], [.inl (x2), .inr (.inr ((RH x0 0))), .inl ((σ.1 (RH x0 0) x3.toNatClampNeg))], hp σ, 0, 0)) 1 rfl ?_
      refine T_iald rfl (fun _ => ?_)
      refine T_icmp_ge 69 rfl rfl (fun _ => ?_) (fun _ => ?_)
      · refine T_loc (ls' := [(0, .inr (.inr (x0))), (1, .inl (x1)), (2, .inl (x2)), (3, .inl (x3))]) [0, 1, 2, 3] rfl ?_
        exact s_X5_nextOrder_69 x0 x1 x2 x3 σ
      · refine T_go (S' := (41, [(3, .inl ((x3 + (-1 : Int32)))), (0, .inr (.inr (x0))), (1, .inl (x1)), (2, .inl (x2))], [], hp σ, 0, 0)) 2 rfl ?_
        refine T_loc (ls' := [(0, .inr (.inr (x0))), (1, .inl (x1)), (2, .inl (x2)), (3, .inl ((x3 + (-1 : Int32))))]) [1, 2, 3, 0] rfl ?_
        exact ih x0 x1 x2 (x3 + (-1 : Int32)) σ
def f_X5_nextOrder_31 (x0 : Nat) (x1 : Int32) (x2 : Int32) (σ : eMem) : Option (Int32 × eMem) :=
  if (0 : Int32) ≤ x2 then
    eLet ((x1 - (1 : Int32)) : Int32) (fun v1 =>
      f_X5_nextOrder_41 1000000 x0 x1 x2 v1 σ
      )
  else
    if eB (0 : Int32) = true then some ((0 : Int32), σ) else none
set_option maxHeartbeats 4000000 in
set_option maxRecDepth 20000 in
theorem s_X5_nextOrder_31 (x0 : Nat) (x1 : Int32) (x2 : Int32) (σ : eMem) : Snd false none 1 m_X5_nextOrder (f_X5_nextOrder_31 x0 x1 x2 σ) (cN iI) (31, [(0, .inr (.inr (x0))), (1, .inl (x1)), (2, .inl (x2))], [], hp σ, 0, 0) := by
  unfold f_X5_nextOrder_31
  refine T_go (S' := (32, [(0, .inr (.inr (x0))), (1, .inl (x1)), (2, .inl (x2))], [.inl (x2)], hp σ, 0, 0)) 1 rfl ?_
  refine T_if_ge 37 rfl rfl (fun _ => ?_) (fun _ => ?_)
  · refine T_go (S' := (41, [(3, .inl ((x1 - (1 : Int32)))), (0, .inr (.inr (x0))), (1, .inl (x1)), (2, .inl (x2))], [], hp σ, 0, 0)) 4 rfl ?_
    refine T_let (Sf := fun v1 => (41, [(3, .inl (v1)), (0, .inr (.inr (x0))), (1, .inl (x1)), (2, .inl (x2))], [], hp σ, 0, 0)) (fun v1 => ?_)
    refine T_loc (ls' := [(0, .inr (.inr (x0))), (1, .inl (x1)), (2, .inl (x2)), (3, .inl (v1))]) [1, 2, 3, 0] rfl ?_
    exact s_X5_nextOrder_41 1000000 x0 x1 x2 v1 σ
  · refine T_go (S' := (36, [(0, .inr (.inr (x0))), (1, .inl (x1)), (2, .inl (x2))], [.inl ((0 : Int32))], hp σ, 0, 0)) 1 rfl ?_
    exact T_chkr rfl
def f_X5_nextOrder_4 : Nat → Nat → Int32 → Int32 → eMem → Option (Int32 × eMem)
  | 0, _, _, _, _ => none
  | n + 1, x0, x1, x2, σ =>
    if x2 < (0 : Int32) then
      f_X5_nextOrder_31 x0 x1 x2 σ
    else
      if (KH x0).1 = 4 then
        if (KH (RH x0 0)).1 = 11 ∧ eix x2 (KH (RH x0 0)).2 = true then
          if (KH x0).1 = 4 then
            if (KH (RH x0 0)).1 = 11 ∧ eix (x2 + (1 : Int32)) (KH (RH x0 0)).2 = true then
              if (σ.1 (RH x0 0) x2.toNatClampNeg) ≤ (σ.1 (RH x0 0) (x2 + (1 : Int32)).toNatClampNeg) then
                f_X5_nextOrder_31 x0 x1 x2 σ
              else
                f_X5_nextOrder_4 n x0 x1 (x2 + (-1 : Int32)) σ
            else none
          else none
        else none
      else none
set_option maxHeartbeats 4000000 in
set_option maxRecDepth 20000 in
theorem s_X5_nextOrder_4 : ∀ (n : Nat) (x0 : Nat) (x1 : Int32) (x2 : Int32) (σ : eMem), Snd false none 1 m_X5_nextOrder (f_X5_nextOrder_4 n x0 x1 x2 σ) (cN iI) (4, [(0, .inr (.inr (x0))), (1, .inl (x1)), (2, .inl (x2))], [], hp σ, 0, 0) := by
  intro n
  induction n with
  | zero => exact fun _ _ _ _ => T_none
  | succ n ih =>
    intro x0 x1 x2 σ
    unfold f_X5_nextOrder_4
    refine T_go (S' := (5, [(0, .inr (.inr (x0))), (1, .inl (x1)), (2, .inl (x2))], [.inl (x2)], hp σ, 0, 0)) 1 rfl ?_
    refine T_if_lt 31 rfl rfl (fun _ => ?_) (fun _ => ?_)
    · refine T_loc (ls' := [(0, .inr (.inr (x0))), (1, .inl (x1)), (2, .inl (x2))]) [0, 1, 2] rfl ?_
      exact s_X5_nextOrder_31 x0 x1 x2 σ
    · refine T_go (S' := (9, [(0, .inr (.inr (x0))), (1, .inl (x1)), (2, .inl (x2))], [.inr (.inr (x0))], hp σ, 0, 0)) 1 rfl ?_
      refine T_getR rfl (fun _ => ?_)
      refine T_go (S' := (13, [(0, .inr (.inr (x0))), (1, .inl (x1)), (2, .inl (x2))], [.inl (x2), .inr (.inr ((RH x0 0)))], hp σ, 0, 0)) 1 rfl ?_
      refine T_iald rfl (fun _ => ?_)
      refine T_go (S' := (15, [(0, .inr (.inr (x0))), (1, .inl (x1)), (2, .inl (x2))], [.inr (.inr (x0)), .inl ((σ.1 (RH x0 0) x2.toNatClampNeg))], hp σ, 0, 0)) 1 rfl ?_
      refine T_getR rfl (fun _ => ?_)
      refine T_go (S' := (21, [(0, .inr (.inr (x0))), (1, .inl (x1)), (2, .inl (x2))], [.inl ((x2 + (1 : Int32))), .inr (.inr ((RH x0 0))), .inl ((σ.1 (RH x0 0) x2.toNatClampNeg))], hp σ, 0, 0)) 3 rfl ?_
      refine T_iald rfl (fun _ => ?_)
      refine T_icmp_le 31 rfl rfl (fun _ => ?_) (fun _ => ?_)
      · refine T_loc (ls' := [(0, .inr (.inr (x0))), (1, .inl (x1)), (2, .inl (x2))]) [0, 1, 2] rfl ?_
        exact s_X5_nextOrder_31 x0 x1 x2 σ
      · refine T_go (S' := (4, [(2, .inl ((x2 + (-1 : Int32)))), (0, .inr (.inr (x0))), (1, .inl (x1))], [], hp σ, 0, 0)) 2 rfl ?_
        refine T_loc (ls' := [(0, .inr (.inr (x0))), (1, .inl (x1)), (2, .inl ((x2 + (-1 : Int32))))]) [1, 2, 0] rfl ?_
        exact ih x0 x1 (x2 + (-1 : Int32)) σ
def f_X5_nextOrder (x0 : Nat) (x1 : Int32) (σ : eMem) : Option (Int32 × eMem) :=
  eLet ((x1 - (2 : Int32)) : Int32) (fun v1 =>
    f_X5_nextOrder_4 1000000 x0 x1 v1 σ
    )
set_option maxHeartbeats 4000000 in
set_option maxRecDepth 20000 in
theorem s_X5_nextOrder (x0 : Nat) (x1 : Int32) (σ : eMem) : ∀ r, f_X5_nextOrder x0 x1 σ = some r → Ew false 2 54 [.inr (.inr (x0)), .inl (x1)] (hp σ) (cN iI r) := by
  refine T_meth (md := m_X5_nextOrder) (d0 := 1) (cv := (cN iI)) rfl (lb rfl) (lb rfl) ?_
  unfold f_X5_nextOrder
  show Snd false none _ _ _ _ (0, [(0, .inr (.inr (x0))), (1, .inl (x1))], [], hp σ, 0, 0)
  refine T_go (S' := (4, [(2, .inl ((x1 - (2 : Int32)))), (0, .inr (.inr (x0))), (1, .inl (x1))], [], hp σ, 0, 0)) 4 rfl ?_
  refine T_let (Sf := fun v1 => (4, [(2, .inl (v1)), (0, .inr (.inr (x0))), (1, .inl (x1))], [], hp σ, 0, 0)) (fun v1 => ?_)
  refine T_loc (ls' := [(0, .inr (.inr (x0))), (1, .inl (x1)), (2, .inl (v1))]) [1, 2, 0] rfl ?_
  exact s_X5_nextOrder_4 1000000 x0 x1 v1 σ
def f_X5_mayOvertake_29 (s0 : Int32) (σ : eMem) : Option (Int32 × eMem) :=
  if eB s0 = true then some (s0, σ) else none
set_option maxHeartbeats 4000000 in
set_option maxRecDepth 20000 in
theorem s_X5_mayOvertake_29 (s0 : Int32) (σ : eMem) : Snd false none 0 m_X5_mayOvertake (f_X5_mayOvertake_29 s0 σ) (cN iI) (29, [], [.inl (s0)], hp σ, 0, 0) := by
  unfold f_X5_mayOvertake_29
  exact T_chkr rfl
def f_X5_mayOvertake_28  (σ : eMem) : Option (Int32 × eMem) :=
  f_X5_mayOvertake_29 (0 : Int32) σ
set_option maxHeartbeats 4000000 in
set_option maxRecDepth 20000 in
theorem s_X5_mayOvertake_28  (σ : eMem) : Snd false none 0 m_X5_mayOvertake (f_X5_mayOvertake_28 σ) (cN iI) (28, [], [], hp σ, 0, 0) := by
  unfold f_X5_mayOvertake_28
  refine T_go (S' := (29, [], [.inl ((0 : Int32))], hp σ, 0, 0)) 1 rfl ?_
  refine T_loc (ls' := []) [] rfl ?_
  exact s_X5_mayOvertake_29 (0 : Int32) σ
def f_X5_mayOvertake (x0 : Nat) (x1 : Int32) (x2 : Int32) (x3 : Int32) (σ : eMem) : Option (Int32 × eMem) :=
  if ¬ x1 = (1 : Int32) then
    f_X5_mayOvertake_28  σ
  else
    if (KH x0).1 = 7 then
      if (KH (RH x0 0)).1 = 11 ∧ eix x2 (KH (RH x0 0)).2 = true then
        if ¬ (σ.1 (RH x0 0) x2.toNatClampNeg) = (1 : Int32) then
          f_X5_mayOvertake_28  σ
        else
          if (KH x0).1 = 7 then
            if (KH (RH x0 0)).1 = 11 ∧ eix x3 (KH (RH x0 0)).2 = true then
              if ¬ (σ.1 (RH x0 0) x3.toNatClampNeg) = (0 : Int32) then
                f_X5_mayOvertake_28  σ
              else
                f_X5_mayOvertake_29 (1 : Int32) σ
            else none
          else none
      else none
    else none
set_option maxHeartbeats 4000000 in
set_option maxRecDepth 20000 in
theorem s_X5_mayOvertake (x0 : Nat) (x1 : Int32) (x2 : Int32) (x3 : Int32) (σ : eMem) : ∀ r, f_X5_mayOvertake x0 x1 x2 x3 σ = some r → Ew false 1 57 [.inr (.inr (x0)), .inl (x1), .inl (x2), .inl (x3)] (hp σ) (cN iI r) := by
  refine T_meth (md := m_X5_mayOvertake) (d0 := 0) (cv := (cN iI)) rfl (lb rfl) (lb rfl) ?_
  unfold f_X5_mayOvertake
  show Snd false none _ _ _ _ (0, [(0, .inr (.inr (x0))), (1, .inl (x1)), (2, .inl (x2)), (3, .inl (x3))], [], hp σ, 0, 0)
  refine T_go (S' := (2, [(0, .inr (.inr (x0))), (1, .inl (x1)), (2, .inl (x2)), (3, .inl (x3))], [.inl ((1 : Int32)), .inl (x1)], hp σ, 0, 0)) 2 rfl ?_
  refine T_icmp_ne 28 rfl rfl (fun _ => ?_) (fun _ => ?_)
  · refine T_loc (ls' := []) [] rfl ?_
    exact s_X5_mayOvertake_28  σ
  · refine T_go (S' := (6, [(0, .inr (.inr (x0))), (1, .inl (x1)), (2, .inl (x2)), (3, .inl (x3))], [.inr (.inr (x0))], hp σ, 0, 0)) 1 rfl ?_
    refine T_getR rfl (fun _ => ?_)
    refine T_go (S' := (10, [(0, .inr (.inr (x0))), (1, .inl (x1)), (2, .inl (x2)), (3, .inl (x3))], [.inl (x2), .inr (.inr ((RH x0 0)))], hp σ, 0, 0)) 1 rfl ?_
    refine T_iald rfl (fun _ => ?_)
    refine T_go (S' := (12, [(0, .inr (.inr (x0))), (1, .inl (x1)), (2, .inl (x2)), (3, .inl (x3))], [.inl ((1 : Int32)), .inl ((σ.1 (RH x0 0) x2.toNatClampNeg))], hp σ, 0, 0)) 1 rfl ?_
    refine T_icmp_ne 28 rfl rfl (fun _ => ?_) (fun _ => ?_)
    · refine T_loc (ls' := []) [] rfl ?_
      exact s_X5_mayOvertake_28  σ
    · refine T_go (S' := (16, [(0, .inr (.inr (x0))), (1, .inl (x1)), (2, .inl (x2)), (3, .inl (x3))], [.inr (.inr (x0))], hp σ, 0, 0)) 1 rfl ?_
      refine T_getR rfl (fun _ => ?_)
      refine T_go (S' := (20, [(0, .inr (.inr (x0))), (1, .inl (x1)), (2, .inl (x2)), (3, .inl (x3))], [.inl (x3), .inr (.inr ((RH x0 0)))], hp σ, 0, 0)) 1 rfl ?_
      refine T_iald rfl (fun _ => ?_)
      refine T_if_ne 28 rfl rfl (fun _ => ?_) (fun _ => ?_)
      · refine T_loc (ls' := []) [] rfl ?_
        exact s_X5_mayOvertake_28  σ
      · refine T_go (S' := (29, [(0, .inr (.inr (x0))), (1, .inl (x1)), (2, .inl (x2)), (3, .inl (x3))], [.inl ((1 : Int32))], hp σ, 0, 0)) 2 rfl ?_
        refine T_loc (ls' := []) [] rfl ?_
        exact s_X5_mayOvertake_29 (1 : Int32) σ
def f_X5_isAllowed_L3 : Nat → (Nat × Nat × Int32 × Int32 × Int32 ⊕ (Nat × Nat × Int32 × Int32 × Int32 × Int32 ⊕ (Nat × Nat × Int32 × Int32 × Int32 × Int32 ⊕ (Nat × Nat × Int32 × Int32 × Int32 × Int32 × Int32 ⊕ (Nat × Nat × Int32 × Int32 × Int32 × Int32))))) → eMem → Option (Int32 × eMem)
  | 0, _, _ => none
  | n + 1, .inl (x0, x1, x2, x3, x4), σ =>
    if x3 ≤ x4 then
      if eB (1 : Int32) = true then some ((1 : Int32), σ) else none
    else
      eLet ((x4 + (1 : Int32)) : Int32) (fun v1 =>
        f_X5_isAllowed_L3 n (.inr (.inl (x0, x1, x2, x3, x4, v1))) σ
        )
  | n + 1, .inr (.inl (x0, x1, x2, x3, x4, x5)), σ =>
    if x3 ≤ x5 then
      f_X5_isAllowed_L3 n (.inl (x0, x1, x2, x3, (x4 + (1 : Int32)))) σ
    else
      if (KH x0).1 = 4 then
        if (KH (RH x0 0)).1 = 11 ∧ eix x4 (KH (RH x0 0)).2 = true then
          if (KH x0).1 = 4 then
            if (KH (RH x0 0)).1 = 11 ∧ eix x5 (KH (RH x0 0)).2 = true then
              if (σ.1 (RH x0 0) x4.toNatClampNeg) ≤ (σ.1 (RH x0 0) x5.toNatClampNeg) then
                f_X5_isAllowed_L3 n (.inr (.inr (.inl (x0, x1, x2, x3, x4, x5)))) σ
              else
                if (KH x0).1 = 4 then
                  if (KH (RH x0 0)).1 = 11 ∧ eix x4 (KH (RH x0 0)).2 = true then
                    if ¬ (4 : Int32) = 0 then
                      if (KH x0).1 = 4 then
                        if (KH (RH x0 0)).1 = 11 ∧ eix x5 (KH (RH x0 0)).2 = true then
                          if ¬ (4 : Int32) = 0 then
                            if ¬ ((σ.1 (RH x0 0) x4.toNatClampNeg) / (4 : Int32)) = ((σ.1 (RH x0 0) x5.toNatClampNeg) / (4 : Int32)) then
                              f_X5_isAllowed_L3 n (.inr (.inr (.inl (x0, x1, x2, x3, x4, x5)))) σ
                            else
                              f_X5_isAllowed_L3 n (.inr (.inr (.inr (.inl (x0, x1, x2, x3, x4, x5, (1 : Int32)))))) σ
                          else none
                        else none
                      else none
                    else none
                  else none
                else none
            else none
          else none
        else none
      else none
  | n + 1, .inr (.inr (.inl (x0, x1, x2, x3, x4, x5))), σ =>
    f_X5_isAllowed_L3 n (.inr (.inr (.inr (.inl (x0, x1, x2, x3, x4, x5, (0 : Int32)))))) σ
  | n + 1, .inr (.inr (.inr (.inl (x0, x1, x2, x3, x4, x5, s0)))), σ =>
    if s0 = (0 : Int32) then
      f_X5_isAllowed_L3 n (.inr (.inr (.inr (.inr ((x0, x1, x2, x3, x4, x5)))))) σ
    else
      if (KH x0).1 = 4 then
        if (KH (RH x0 0)).1 = 11 ∧ eix x4 (KH (RH x0 0)).2 = true then
          if (KH x0).1 = 4 then
            if (KH (RH x0 0)).1 = 11 ∧ eix x5 (KH (RH x0 0)).2 = true then
              Option.bind (f_X5_mayOvertake x1 x2 (σ.1 (RH x0 0) x4.toNatClampNeg) (σ.1 (RH x0 0) x5.toNatClampNeg) σ) (fun r1 =>
                if ¬ r1.1 = (0 : Int32) then
                  f_X5_isAllowed_L3 n (.inr (.inr (.inr (.inr ((x0, x1, x2, x3, x4, x5)))))) r1.2
                else
                  if eB (0 : Int32) = true then some ((0 : Int32), r1.2) else none
                )
            else none
          else none
        else none
      else none
  | n + 1, .inr (.inr (.inr (.inr ((x0, x1, x2, x3, x4, x5))))), σ =>
    f_X5_isAllowed_L3 n (.inr (.inl (x0, x1, x2, x3, x4, (x5 + (1 : Int32))))) σ
set_option maxHeartbeats 4000000 in
set_option maxRecDepth 20000 in
theorem s_X5_isAllowed_L3 : ∀ (n : Nat), (∀ (x0 : Nat) (x1 : Nat) (x2 : Int32) (x3 : Int32) (x4 : Int32) (σ : eMem), Snd false none 1 m_X5_isAllowed (f_X5_isAllowed_L3 n (.inl (x0, x1, x2, x3, x4)) σ) (cN iI) (3, [(0, .inr (.inr (x0))), (1, .inr (.inr (x1))), (2, .inl (x2)), (3, .inl (x3)), (4, .inl (x4))], [], hp σ, 0, 0)) ∧ (∀ (x0 : Nat) (x1 : Nat) (x2 : Int32) (x3 : Int32) (x4 : Int32) (x5 : Int32) (σ : eMem), Snd false none 1 m_X5_isAllowed (f_X5_isAllowed_L3 n (.inr (.inl (x0, x1, x2, x3, x4, x5))) σ) (cN iI) (15, [(0, .inr (.inr (x0))), (1, .inr (.inr (x1))), (2, .inl (x2)), (3, .inl (x3)), (4, .inl (x4)), (5, .inl (x5))], [], hp σ, 0, 0)) ∧ (∀ (x0 : Nat) (x1 : Nat) (x2 : Int32) (x3 : Int32) (x4 : Int32) (x5 : Int32) (σ : eMem), Snd false none 1 m_X5_isAllowed (f_X5_isAllowed_L3 n (.inr (.inr (.inl (x0, x1, x2, x3, x4, x5)))) σ) (cN iI) (63, [(0, .inr (.inr (x0))), (1, .inr (.inr (x1))), (2, .inl (x2)), (3, .inl (x3)), (4, .inl (x4)), (5, .inl (x5))], [], hp σ, 0, 0)) ∧ (∀ (x0 : Nat) (x1 : Nat) (x2 : Int32) (x3 : Int32) (x4 : Int32) (x5 : Int32) (s0 : Int32) (σ : eMem), Snd false none 1 m_X5_isAllowed (f_X5_isAllowed_L3 n (.inr (.inr (.inr (.inl (x0, x1, x2, x3, x4, x5, s0))))) σ) (cN iI) (64, [(0, .inr (.inr (x0))), (1, .inr (.inr (x1))), (2, .inl (x2)), (3, .inl (x3)), (4, .inl (x4)), (5, .inl (x5))], [.inl (s0)], hp σ, 0, 0)) ∧ (∀ (x0 : Nat) (x1 : Nat) (x2 : Int32) (x3 : Int32) (x4 : Int32) (x5 : Int32) (σ : eMem), Snd false none 1 m_X5_isAllowed (f_X5_isAllowed_L3 n (.inr (.inr (.inr (.inr ((x0, x1, x2, x3, x4, x5)))))) σ) (cN iI) (95, [(0, .inr (.inr (x0))), (1, .inr (.inr (x1))), (2, .inl (x2)), (3, .inl (x3)), (4, .inl (x4)), (5, .inl (x5))], [], hp σ, 0, 0)) := by
  intro n
  induction n with
  | zero => exact ⟨fun _ _ _ _ _ _ => T_none, fun _ _ _ _ _ _ _ => T_none, fun _ _ _ _ _ _ _ => T_none, fun _ _ _ _ _ _ _ _ => T_none, fun _ _ _ _ _ _ _ => T_none⟩
  | succ n ih =>
    refine ⟨?_, ?_, ?_, ?_, ?_⟩
    · intro x0 x1 x2 x3 x4 σ
      unfold f_X5_isAllowed_L3
      refine T_go (S' := (6, [(0, .inr (.inr (x0))), (1, .inr (.inr (x1))), (2, .inl (x2)), (3, .inl (x3)), (4, .inl (x4))], [.inl (x3), .inl (x4)], hp σ, 0, 0)) 2 rfl ?_
      refine T_icmp_ge 107 rfl rfl (fun _ => ?_) (fun _ => ?_)
      · refine T_go (S' := (108, [(0, .inr (.inr (x0))), (1, .inr (.inr (x1))), (2, .inl (x2)), (3, .inl (x3)), (4, .inl (x4))], [.inl ((1 : Int32))], hp σ, 0, 0)) 1 rfl ?_
        exact T_chkr rfl
      · refine T_go (S' := (15, [(5, .inl ((x4 + (1 : Int32)))), (0, .inr (.inr (x0))), (1, .inr (.inr (x1))), (2, .inl (x2)), (3, .inl (x3)), (4, .inl (x4))], [], hp σ, 0, 0)) 4 rfl ?_
        refine T_let (Sf := fun v1 => (15, [(5, .inl (v1)), (0, .inr (.inr (x0))), (1, .inr (.inr (x1))), (2, .inl (x2)), (3, .inl (x3)), (4, .inl (x4))], [], hp σ, 0, 0)) (fun v1 => ?_)
        refine T_loc (ls' := [(0, .inr (.inr (x0))), (1, .inr (.inr (x1))), (2, .inl (x2)), (3, .inl (x3)), (4, .inl (x4)), (5, .inl (v1))]) [1, 2, 3, 4, 5, 0] rfl ?_
        exact (ih.2.1) x0 x1 x2 x3 x4 v1 σ
    · intro x0 x1 x2 x3 x4 x5 σ
      unfold f_X5_isAllowed_L3
      refine T_go (S' := (18, [(0, .inr (.inr (x0))), (1, .inr (.inr (x1))), (2, .inl (x2)), (3, .inl (x3)), (4, .inl (x4)), (5, .inl (x5))], [.inl (x3), .inl (x5)], hp σ, 0, 0)) 2 rfl ?_
      refine T_icmp_ge 101 rfl rfl (fun _ => ?_) (fun _ => ?_)
      · refine T_go (S' := (3, [(4, .inl ((x4 + (1 : Int32)))), (0, .inr (.inr (x0))), (1, .inr (.inr (x1))), (2, .inl (x2)), (3, .inl (x3)), (5, .inl (x5))], [], hp σ, 0, 0)) 2 rfl ?_
        refine T_loc (ls' := [(0, .inr (.inr (x0))), (1, .inr (.inr (x1))), (2, .inl (x2)), (3, .inl (x3)), (4, .inl ((x4 + (1 : Int32))))]) [1, 2, 3, 4, 0] rfl ?_
        exact (ih.1) x0 x1 x2 x3 (x4 + (1 : Int32)) σ
      · refine T_go (S' := (22, [(0, .inr (.inr (x0))), (1, .inr (.inr (x1))), (2, .inl (x2)), (3, .inl (x3)), (4, .inl (x4)), (5, .inl (x5))], [.inr (.inr (x0))], hp σ, 0, 0)) 1 rfl ?_
        refine T_getR rfl (fun _ => ?_)
        refine T_go (S' := (27, [(0, .inr (.inr (x0))), (1, .inr (.inr (x1))), (2, .inl (x2)), (3, .inl (x3)), (4, .inl (x4)), (5, .inl (x5))], [.inl (x4), .inr (.inr ((RH x0 0)))], hp σ, 0, 0)) 1 rfl ?_
        refine T_iald rfl (fun _ => ?_)
        refine T_go (S' := (29, [(0, .inr (.inr (x0))), (1, .inr (.inr (x1))), (2, .inl (x2)), (3, .inl (x3)), (4, .inl (x4)), (5, .inl (x5))], [.inr (.inr (x0)), .inl ((σ.1 (RH x0 0) x4.toNatClampNeg))], hp σ, 0, 0)) 1 rfl ?_
        refine T_getR rfl (fun _ => ?_)
        refine T_go (S' := (34, [(0, .inr (.inr (x0))), (1, .inr (.inr (x1))), (2, .inl (x2)), (3, .inl (x3)), (4, .inl (x4)), (5, .inl (x5))], [.inl (x5), .inr (.inr ((RH x0 0))), .inl ((σ.1 (RH x0 0) x4.toNatClampNeg))], hp σ, 0, 0)) 1 rfl ?_
        refine T_iald rfl (fun _ => ?_)
        refine T_icmp_le 63 rfl rfl (fun _ => ?_) (fun _ => ?_)
        · refine T_loc (ls' := [(0, .inr (.inr (x0))), (1, .inr (.inr (x1))), (2, .inl (x2)), (3, .inl (x3)), (4, .inl (x4)), (5, .inl (x5))]) [0, 1, 2, 3, 4, 5] rfl ?_
          exact (ih.2.2.1) x0 x1 x2 x3 x4 x5 σ
        · refine T_go (S' := (39, [(0, .inr (.inr (x0))), (1, .inr (.inr (x1))), (2, .inl (x2)), (3, .inl (x3)), (4, .inl (x4)), (5, .inl (x5))], [.inr (.inr (x0))], hp σ, 0, 0)) 1 rfl ?_
          refine T_getR rfl (fun _ => ?_)
          refine T_go (S' := (44, [(0, .inr (.inr (x0))), (1, .inr (.inr (x1))), (2, .inl (x2)), (3, .inl (x3)), (4, .inl (x4)), (5, .inl (x5))], [.inl (x4), .inr (.inr ((RH x0 0)))], hp σ, 0, 0)) 1 rfl ?_
          refine T_iald rfl (fun _ => ?_)
          refine T_go (S' := (46, [(0, .inr (.inr (x0))), (1, .inr (.inr (x1))), (2, .inl (x2)), (3, .inl (x3)), (4, .inl (x4)), (5, .inl (x5))], [.inl ((4 : Int32)), .inl ((σ.1 (RH x0 0) x4.toNatClampNeg))], hp σ, 0, 0)) 1 rfl ?_
          refine T_idiv rfl (fun _ => ?_)
          refine T_go (S' := (48, [(0, .inr (.inr (x0))), (1, .inr (.inr (x1))), (2, .inl (x2)), (3, .inl (x3)), (4, .inl (x4)), (5, .inl (x5))], [.inr (.inr (x0)), .inl (((σ.1 (RH x0 0) x4.toNatClampNeg) / (4 : Int32)))], hp σ, 0, 0)) 1 rfl ?_
          refine T_getR rfl (fun _ => ?_)
          refine T_go (S' := (53, [(0, .inr (.inr (x0))), (1, .inr (.inr (x1))), (2, .inl (x2)), (3, .inl (x3)), (4, .inl (x4)), (5, .inl (x5))], [.inl (x5), .inr (.inr ((RH x0 0))), .inl (((σ.1 (RH x0 0) x4.toNatClampNeg) / (4 : Int32)))], hp σ, 0, 0)) 1 rfl ?_
          refine T_iald rfl (fun _ => ?_)
          refine T_go (S' := (55, [(0, .inr (.inr (x0))), (1, .inr (.inr (x1))), (2, .inl (x2)), (3, .inl (x3)), (4, .inl (x4)), (5, .inl (x5))], [.inl ((4 : Int32)), .inl ((σ.1 (RH x0 0) x5.toNatClampNeg)), .inl (((σ.1 (RH x0 0) x4.toNatClampNeg) / (4 : Int32)))], hp σ, 0, 0)) 1 rfl ?_
          refine T_idiv rfl (fun _ => ?_)
          refine T_icmp_ne 63 rfl rfl (fun _ => ?_) (fun _ => ?_)
          · refine T_loc (ls' := [(0, .inr (.inr (x0))), (1, .inr (.inr (x1))), (2, .inl (x2)), (3, .inl (x3)), (4, .inl (x4)), (5, .inl (x5))]) [0, 1, 2, 3, 4, 5] rfl ?_
            exact (ih.2.2.1) x0 x1 x2 x3 x4 x5 σ
          · refine T_go (S' := (64, [(0, .inr (.inr (x0))), (1, .inr (.inr (x1))), (2, .inl (x2)), (3, .inl (x3)), (4, .inl (x4)), (5, .inl (x5))], [.inl ((1 : Int32))], hp σ, 0, 0)) 2 rfl ?_
            refine T_loc (ls' := [(0, .inr (.inr (x0))), (1, .inr (.inr (x1))), (2, .inl (x2)), (3, .inl (x3)), (4, .inl (x4)), (5, .inl (x5))]) [0, 1, 2, 3, 4, 5] rfl ?_
            exact (ih.2.2.2.1) x0 x1 x2 x3 x4 x5 (1 : Int32) σ
    · intro x0 x1 x2 x3 x4 x5 σ
      unfold f_X5_isAllowed_L3
      refine T_go (S' := (64, [(0, .inr (.inr (x0))), (1, .inr (.inr (x1))), (2, .inl (x2)), (3, .inl (x3)), (4, .inl (x4)), (5, .inl (x5))], [.inl ((0 : Int32))], hp σ, 0, 0)) 1 rfl ?_
      refine T_loc (ls' := [(0, .inr (.inr (x0))), (1, .inr (.inr (x1))), (2, .inl (x2)), (3, .inl (x3)), (4, .inl (x4)), (5, .inl (x5))]) [0, 1, 2, 3, 4, 5] rfl ?_
      exact (ih.2.2.2.1) x0 x1 x2 x3 x4 x5 (0 : Int32) σ
    · intro x0 x1 x2 x3 x4 x5 s0 σ
      unfold f_X5_isAllowed_L3
      refine T_go (S' := (68, [(6, .inl (s0)), (0, .inr (.inr (x0))), (1, .inr (.inr (x1))), (2, .inl (x2)), (3, .inl (x3)), (4, .inl (x4)), (5, .inl (x5))], [.inl (s0)], hp σ, 0, 0)) 2 rfl ?_
      refine T_if_eq 95 rfl rfl (fun _ => ?_) (fun _ => ?_)
      · refine T_loc (ls' := [(0, .inr (.inr (x0))), (1, .inr (.inr (x1))), (2, .inl (x2)), (3, .inl (x3)), (4, .inl (x4)), (5, .inl (x5))]) [1, 2, 3, 4, 5, 6] rfl ?_
        exact (ih.2.2.2.2) x0 x1 x2 x3 x4 x5 σ
      · refine T_go (S' := (74, [(6, .inl (s0)), (0, .inr (.inr (x0))), (1, .inr (.inr (x1))), (2, .inl (x2)), (3, .inl (x3)), (4, .inl (x4)), (5, .inl (x5))], [.inr (.inr (x0)), .inl (x2), .inr (.inr (x1))], hp σ, 0, 0)) 3 rfl ?_
        refine T_getR rfl (fun _ => ?_)
        refine T_go (S' := (79, [(6, .inl (s0)), (0, .inr (.inr (x0))), (1, .inr (.inr (x1))), (2, .inl (x2)), (3, .inl (x3)), (4, .inl (x4)), (5, .inl (x5))], [.inl (x4), .inr (.inr ((RH x0 0))), .inl (x2), .inr (.inr (x1))], hp σ, 0, 0)) 1 rfl ?_
        refine T_iald rfl (fun _ => ?_)
        refine T_go (S' := (81, [(6, .inl (s0)), (0, .inr (.inr (x0))), (1, .inr (.inr (x1))), (2, .inl (x2)), (3, .inl (x3)), (4, .inl (x4)), (5, .inl (x5))], [.inr (.inr (x0)), .inl ((σ.1 (RH x0 0) x4.toNatClampNeg)), .inl (x2), .inr (.inr (x1))], hp σ, 0, 0)) 1 rfl ?_
        refine T_getR rfl (fun _ => ?_)
        refine T_go (S' := (86, [(6, .inl (s0)), (0, .inr (.inr (x0))), (1, .inr (.inr (x1))), (2, .inl (x2)), (3, .inl (x3)), (4, .inl (x4)), (5, .inl (x5))], [.inl (x5), .inr (.inr ((RH x0 0))), .inl ((σ.1 (RH x0 0) x4.toNatClampNeg)), .inl (x2), .inr (.inr (x1))], hp σ, 0, 0)) 1 rfl ?_
        refine T_iald rfl (fun _ => ?_)
        refine T_cs (i := iI) (as := [.inr (.inr (x1)), .inl (x2), .inl ((σ.1 (RH x0 0) x4.toNatClampNeg)), .inl ((σ.1 (RH x0 0) x5.toNatClampNeg))]) (rest := []) (st := [.inl ((σ.1 (RH x0 0) x5.toNatClampNeg)), .inl ((σ.1 (RH x0 0) x4.toNatClampNeg)), .inl (x2), .inr (.inr (x1))]) rfl (lb rfl) rfl rfl ⟨lb rfl, lb rfl, lb rfl, lb rfl⟩ (fun _ h => Ew_le (lb rfl) (s_X5_mayOvertake x1 x2 (σ.1 (RH x0 0) x4.toNatClampNeg) (σ.1 (RH x0 0) x5.toNatClampNeg) σ _ h)) (fun r1 => ?_)
        show Snd false none _ _ _ (cN iI) (90, [(6, .inl (s0)), (0, .inr (.inr (x0))), (1, .inr (.inr (x1))), (2, .inl (x2)), (3, .inl (x3)), (4, .inl (x4)), (5, .inl (x5))], [.inl (r1.1)], hp r1.2, 0, 0)
        refine T_if_ne 95 rfl rfl (fun _ => ?_) (fun _ => ?_)
        · refine T_loc (ls' := [(0, .inr (.inr (x0))), (1, .inr (.inr (x1))), (2, .inl (x2)), (3, .inl (x3)), (4, .inl (x4)), (5, .inl (x5))]) [1, 2, 3, 4, 5, 6] rfl ?_
          exact (ih.2.2.2.2) x0 x1 x2 x3 x4 x5 r1.2
        · refine T_go (S' := (94, [(6, .inl (s0)), (0, .inr (.inr (x0))), (1, .inr (.inr (x1))), (2, .inl (x2)), (3, .inl (x3)), (4, .inl (x4)), (5, .inl (x5))], [.inl ((0 : Int32))], hp r1.2, 0, 0)) 1 rfl ?_
          exact T_chkr rfl
    · intro x0 x1 x2 x3 x4 x5 σ
      unfold f_X5_isAllowed_L3
      refine T_go (S' := (15, [(5, .inl ((x5 + (1 : Int32)))), (0, .inr (.inr (x0))), (1, .inr (.inr (x1))), (2, .inl (x2)), (3, .inl (x3)), (4, .inl (x4))], [], hp σ, 0, 0)) 2 rfl ?_
      refine T_loc (ls' := [(0, .inr (.inr (x0))), (1, .inr (.inr (x1))), (2, .inl (x2)), (3, .inl (x3)), (4, .inl (x4)), (5, .inl ((x5 + (1 : Int32))))]) [1, 2, 3, 4, 5, 0] rfl ?_
      exact (ih.2.1) x0 x1 x2 x3 x4 (x5 + (1 : Int32)) σ
def f_X5_isAllowed (x0 : Nat) (x1 : Nat) (x2 : Int32) (x3 : Int32) (σ : eMem) : Option (Int32 × eMem) :=
  f_X5_isAllowed_L3 1000000 (.inl (x0, x1, x2, x3, (0 : Int32))) σ
set_option maxHeartbeats 4000000 in
set_option maxRecDepth 20000 in
theorem s_X5_isAllowed (x0 : Nat) (x1 : Nat) (x2 : Int32) (x3 : Int32) (σ : eMem) : ∀ r, f_X5_isAllowed x0 x1 x2 x3 σ = some r → Ew false 2 56 [.inr (.inr (x0)), .inr (.inr (x1)), .inl (x2), .inl (x3)] (hp σ) (cN iI r) := by
  refine T_meth (md := m_X5_isAllowed) (d0 := 1) (cv := (cN iI)) rfl (lb rfl) (lb rfl) ?_
  unfold f_X5_isAllowed
  show Snd false none _ _ _ _ (0, [(0, .inr (.inr (x0))), (1, .inr (.inr (x1))), (2, .inl (x2)), (3, .inl (x3))], [], hp σ, 0, 0)
  refine T_go (S' := (3, [(4, .inl ((0 : Int32))), (0, .inr (.inr (x0))), (1, .inr (.inr (x1))), (2, .inl (x2)), (3, .inl (x3))], [], hp σ, 0, 0)) 2 rfl ?_
  refine T_loc (ls' := [(0, .inr (.inr (x0))), (1, .inr (.inr (x1))), (2, .inl (x2)), (3, .inl (x3)), (4, .inl ((0 : Int32)))]) [1, 2, 3, 4, 0] rfl ?_
  exact (s_X5_isAllowed_L3 1000000).1 x0 x1 x2 x3 (0 : Int32) σ
def f_X5_seenBy_76 (x0 : Nat) (x3 : Int32) (σ : eMem) : Option (Int32 × eMem) :=
  if (KH x0).1 = 4 then
    if (KH (RH x0 2)).1 = 11 ∧ eix x3 (KH (RH x0 2)).2 = true then
      some ((σ.1 (RH x0 2) x3.toNatClampNeg), σ)
    else none
  else none
set_option maxHeartbeats 4000000 in
set_option maxRecDepth 20000 in
theorem s_X5_seenBy_76 (x0 : Nat) (x3 : Int32) (σ : eMem) : Snd false none 0 m_X5_seenBy (f_X5_seenBy_76 x0 x3 σ) (cN iI) (76, [(0, .inr (.inr (x0))), (3, .inl (x3))], [], hp σ, 0, 0) := by
  unfold f_X5_seenBy_76
  refine T_go (S' := (77, [(0, .inr (.inr (x0))), (3, .inl (x3))], [.inr (.inr (x0))], hp σ, 0, 0)) 1 rfl ?_
  refine T_getR rfl (fun _ => ?_)
  refine T_go (S' := (81, [(0, .inr (.inr (x0))), (3, .inl (x3))], [.inl (x3), .inr (.inr ((RH x0 2)))], hp σ, 0, 0)) 1 rfl ?_
  refine T_iald rfl (fun _ => ?_)
  exact T_ret rfl
def f_X5_seenBy_L19 : Nat → (Nat × Nat × Int32 × Int32 × Int32 ⊕ (Nat × Nat × Int32 × Int32 × Int32)) → eMem → Option (Int32 × eMem)
  | 0, _, _ => none
  | n + 1, .inl (x0, x1, x3, x4, x5), σ =>
    if x5 < x4 then
      f_X5_seenBy_76 x0 x3 σ
    else
      if x5 < (0 : Int32) then
        f_X5_seenBy_76 x0 x3 σ
      else
        if (KH x1).1 = 7 then
          if (KH (RH x1 0)).1 = 11 ∧ eix x5 (KH (RH x1 0)).2 = true then
            if ¬ (σ.1 (RH x1 0) x5.toNatClampNeg) = (0 : Int32) then
              f_X5_seenBy_L19 n (.inr ((x0, x1, x3, x4, x5))) σ
            else
              if (KH x1).1 = 7 then
                if (KH (RH x1 1)).1 = 11 ∧ eix x5 (KH (RH x1 1)).2 = true then
                  if ¬ (σ.1 (RH x1 1) x5.toNatClampNeg) = x3 then
                    f_X5_seenBy_L19 n (.inr ((x0, x1, x3, x4, x5))) σ
                  else
                    if (KH x0).1 = 4 then
                      if (KH (RH x0 1)).1 = 13 ∧ eix x5 (KH (RH x0 1)).2 = true then
                        if ¬ (σ.1 (RH x0 1) x5.toNatClampNeg) = (0 : Int32) then
                          f_X5_seenBy_L19 n (.inr ((x0, x1, x3, x4, x5))) σ
                        else
                          if (KH x1).1 = 7 then
                            if (KH (RH x1 2)).1 = 11 ∧ eix x5 (KH (RH x1 2)).2 = true then
                              some ((σ.1 (RH x1 2) x5.toNatClampNeg), σ)
                            else none
                          else none
                      else none
                    else none
                else none
              else none
          else none
        else none
  | n + 1, .inr ((x0, x1, x3, x4, x5)), σ =>
    f_X5_seenBy_L19 n (.inl (x0, x1, x3, x4, (x5 + (-1 : Int32)))) σ
set_option maxHeartbeats 4000000 in
set_option maxRecDepth 20000 in
theorem s_X5_seenBy_L19 : ∀ (n : Nat), (∀ (x0 : Nat) (x1 : Nat) (x3 : Int32) (x4 : Int32) (x5 : Int32) (σ : eMem), Snd false none 0 m_X5_seenBy (f_X5_seenBy_L19 n (.inl (x0, x1, x3, x4, x5)) σ) (cN iI) (19, [(0, .inr (.inr (x0))), (1, .inr (.inr (x1))), (3, .inl (x3)), (4, .inl (x4)), (5, .inl (x5))], [], hp σ, 0, 0)) ∧ (∀ (x0 : Nat) (x1 : Nat) (x3 : Int32) (x4 : Int32) (x5 : Int32) (σ : eMem), Snd false none 0 m_X5_seenBy (f_X5_seenBy_L19 n (.inr ((x0, x1, x3, x4, x5))) σ) (cN iI) (70, [(0, .inr (.inr (x0))), (1, .inr (.inr (x1))), (3, .inl (x3)), (4, .inl (x4)), (5, .inl (x5))], [], hp σ, 0, 0)) := by
  intro n
  induction n with
  | zero => exact ⟨fun _ _ _ _ _ _ => T_none, fun _ _ _ _ _ _ => T_none⟩
  | succ n ih =>
    refine ⟨?_, ?_⟩
    · intro x0 x1 x3 x4 x5 σ
      unfold f_X5_seenBy_L19
      refine T_go (S' := (23, [(0, .inr (.inr (x0))), (1, .inr (.inr (x1))), (3, .inl (x3)), (4, .inl (x4)), (5, .inl (x5))], [.inl (x4), .inl (x5)], hp σ, 0, 0)) 2 rfl ?_
      refine T_icmp_lt 76 rfl rfl (fun _ => ?_) (fun _ => ?_)
      · refine T_loc (ls' := [(0, .inr (.inr (x0))), (3, .inl (x3))]) [0, 2] rfl ?_
        exact s_X5_seenBy_76 x0 x3 σ
      · refine T_go (S' := (28, [(0, .inr (.inr (x0))), (1, .inr (.inr (x1))), (3, .inl (x3)), (4, .inl (x4)), (5, .inl (x5))], [.inl (x5)], hp σ, 0, 0)) 1 rfl ?_
        refine T_if_lt 76 rfl rfl (fun _ => ?_) (fun _ => ?_)
        · refine T_loc (ls' := [(0, .inr (.inr (x0))), (3, .inl (x3))]) [0, 2] rfl ?_
          exact s_X5_seenBy_76 x0 x3 σ
        · refine T_go (S' := (32, [(0, .inr (.inr (x0))), (1, .inr (.inr (x1))), (3, .inl (x3)), (4, .inl (x4)), (5, .inl (x5))], [.inr (.inr (x1))], hp σ, 0, 0)) 1 rfl ?_
          refine T_getR rfl (fun _ => ?_)
          refine T_go (S' := (37, [(0, .inr (.inr (x0))), (1, .inr (.inr (x1))), (3, .inl (x3)), (4, .inl (x4)), (5, .inl (x5))], [.inl (x5), .inr (.inr ((RH x1 0)))], hp σ, 0, 0)) 1 rfl ?_
          refine T_iald rfl (fun _ => ?_)
          refine T_if_ne 70 rfl rfl (fun _ => ?_) (fun _ => ?_)
          · refine T_loc (ls' := [(0, .inr (.inr (x0))), (1, .inr (.inr (x1))), (3, .inl (x3)), (4, .inl (x4)), (5, .inl (x5))]) [0, 1, 2, 3, 4] rfl ?_
            exact (ih.2) x0 x1 x3 x4 x5 σ
          · refine T_go (S' := (42, [(0, .inr (.inr (x0))), (1, .inr (.inr (x1))), (3, .inl (x3)), (4, .inl (x4)), (5, .inl (x5))], [.inr (.inr (x1))], hp σ, 0, 0)) 1 rfl ?_
            refine T_getR rfl (fun _ => ?_)
            refine T_go (S' := (47, [(0, .inr (.inr (x0))), (1, .inr (.inr (x1))), (3, .inl (x3)), (4, .inl (x4)), (5, .inl (x5))], [.inl (x5), .inr (.inr ((RH x1 1)))], hp σ, 0, 0)) 1 rfl ?_
            refine T_iald rfl (fun _ => ?_)
            refine T_go (S' := (49, [(0, .inr (.inr (x0))), (1, .inr (.inr (x1))), (3, .inl (x3)), (4, .inl (x4)), (5, .inl (x5))], [.inl (x3), .inl ((σ.1 (RH x1 1) x5.toNatClampNeg))], hp σ, 0, 0)) 1 rfl ?_
            refine T_icmp_ne 70 rfl rfl (fun _ => ?_) (fun _ => ?_)
            · refine T_loc (ls' := [(0, .inr (.inr (x0))), (1, .inr (.inr (x1))), (3, .inl (x3)), (4, .inl (x4)), (5, .inl (x5))]) [0, 1, 2, 3, 4] rfl ?_
              exact (ih.2) x0 x1 x3 x4 x5 σ
            · refine T_go (S' := (53, [(0, .inr (.inr (x0))), (1, .inr (.inr (x1))), (3, .inl (x3)), (4, .inl (x4)), (5, .inl (x5))], [.inr (.inr (x0))], hp σ, 0, 0)) 1 rfl ?_
              refine T_getR rfl (fun _ => ?_)
              refine T_go (S' := (58, [(0, .inr (.inr (x0))), (1, .inr (.inr (x1))), (3, .inl (x3)), (4, .inl (x4)), (5, .inl (x5))], [.inl (x5), .inr (.inr ((RH x0 1)))], hp σ, 0, 0)) 1 rfl ?_
              refine T_bald rfl (fun _ => ?_)
              refine T_if_ne 70 rfl rfl (fun _ => ?_) (fun _ => ?_)
              · refine T_loc (ls' := [(0, .inr (.inr (x0))), (1, .inr (.inr (x1))), (3, .inl (x3)), (4, .inl (x4)), (5, .inl (x5))]) [0, 1, 2, 3, 4] rfl ?_
                exact (ih.2) x0 x1 x3 x4 x5 σ
              · refine T_go (S' := (63, [(0, .inr (.inr (x0))), (1, .inr (.inr (x1))), (3, .inl (x3)), (4, .inl (x4)), (5, .inl (x5))], [.inr (.inr (x1))], hp σ, 0, 0)) 1 rfl ?_
                refine T_getR rfl (fun _ => ?_)
                refine T_go (S' := (68, [(0, .inr (.inr (x0))), (1, .inr (.inr (x1))), (3, .inl (x3)), (4, .inl (x4)), (5, .inl (x5))], [.inl (x5), .inr (.inr ((RH x1 2)))], hp σ, 0, 0)) 1 rfl ?_
                refine T_iald rfl (fun _ => ?_)
                exact T_ret rfl
    · intro x0 x1 x3 x4 x5 σ
      unfold f_X5_seenBy_L19
      refine T_go (S' := (19, [(5, .inl ((x5 + (-1 : Int32)))), (0, .inr (.inr (x0))), (1, .inr (.inr (x1))), (3, .inl (x3)), (4, .inl (x4))], [], hp σ, 0, 0)) 2 rfl ?_
      refine T_loc (ls' := [(0, .inr (.inr (x0))), (1, .inr (.inr (x1))), (3, .inl (x3)), (4, .inl (x4)), (5, .inl ((x5 + (-1 : Int32))))]) [1, 2, 3, 4, 0] rfl ?_
      exact (ih.1) x0 x1 x3 x4 (x5 + (-1 : Int32)) σ
def f_X5_seenBy (x0 : Nat) (x1 : Nat) (x2 : Int32) (σ : eMem) : Option (Int32 × eMem) :=
  if (KH x1).1 = 7 then
    if (KH (RH x1 1)).1 = 11 ∧ eix x2 (KH (RH x1 1)).2 = true then
      eLet ((σ.1 (RH x1 1) x2.toNatClampNeg) : Int32) (fun v1 =>
        if ¬ (4 : Int32) = 0 then
          eLet (((x2 / (4 : Int32)) * (4 : Int32)) : Int32) (fun v2 =>
            eLet ((x2 - (1 : Int32)) : Int32) (fun v3 =>
              f_X5_seenBy_L19 1000000 (.inl (x0, x1, v1, v2, v3)) σ
              )
            )
        else none
        )
    else none
  else none
set_option maxHeartbeats 4000000 in
set_option maxRecDepth 20000 in
theorem s_X5_seenBy (x0 : Nat) (x1 : Nat) (x2 : Int32) (σ : eMem) : ∀ r, f_X5_seenBy x0 x1 x2 σ = some r → Ew false 1 59 [.inr (.inr (x0)), .inr (.inr (x1)), .inl (x2)] (hp σ) (cN iI r) := by
  refine T_meth (md := m_X5_seenBy) (d0 := 0) (cv := (cN iI)) rfl (lb rfl) (lb rfl) ?_
  unfold f_X5_seenBy
  show Snd false none _ _ _ _ (0, [(0, .inr (.inr (x0))), (1, .inr (.inr (x1))), (2, .inl (x2))], [], hp σ, 0, 0)
  refine T_go (S' := (1, [(0, .inr (.inr (x0))), (1, .inr (.inr (x1))), (2, .inl (x2))], [.inr (.inr (x1))], hp σ, 0, 0)) 1 rfl ?_
  refine T_getR rfl (fun _ => ?_)
  refine T_go (S' := (5, [(0, .inr (.inr (x0))), (1, .inr (.inr (x1))), (2, .inl (x2))], [.inl (x2), .inr (.inr ((RH x1 1)))], hp σ, 0, 0)) 1 rfl ?_
  refine T_iald rfl (fun _ => ?_)
  refine T_go (S' := (7, [(3, .inl ((σ.1 (RH x1 1) x2.toNatClampNeg))), (0, .inr (.inr (x0))), (1, .inr (.inr (x1))), (2, .inl (x2))], [], hp σ, 0, 0)) 1 rfl ?_
  refine T_let (Sf := fun v1 => (7, [(3, .inl (v1)), (0, .inr (.inr (x0))), (1, .inr (.inr (x1))), (2, .inl (x2))], [], hp σ, 0, 0)) (fun v1 => ?_)
  refine T_go (S' := (9, [(3, .inl (v1)), (0, .inr (.inr (x0))), (1, .inr (.inr (x1))), (2, .inl (x2))], [.inl ((4 : Int32)), .inl (x2)], hp σ, 0, 0)) 2 rfl ?_
  refine T_idiv rfl (fun _ => ?_)
  refine T_go (S' := (14, [(4, .inl (((x2 / (4 : Int32)) * (4 : Int32)))), (3, .inl (v1)), (0, .inr (.inr (x0))), (1, .inr (.inr (x1))), (2, .inl (x2))], [], hp σ, 0, 0)) 3 rfl ?_
  refine T_let (Sf := fun v2 => (14, [(4, .inl (v2)), (3, .inl (v1)), (0, .inr (.inr (x0))), (1, .inr (.inr (x1))), (2, .inl (x2))], [], hp σ, 0, 0)) (fun v2 => ?_)
  refine T_go (S' := (19, [(5, .inl ((x2 - (1 : Int32)))), (4, .inl (v2)), (3, .inl (v1)), (0, .inr (.inr (x0))), (1, .inr (.inr (x1))), (2, .inl (x2))], [], hp σ, 0, 0)) 4 rfl ?_
  refine T_let (Sf := fun v3 => (19, [(5, .inl (v3)), (4, .inl (v2)), (3, .inl (v1)), (0, .inr (.inr (x0))), (1, .inr (.inr (x1))), (2, .inl (x2))], [], hp σ, 0, 0)) (fun v3 => ?_)
  refine T_loc (ls' := [(0, .inr (.inr (x0))), (1, .inr (.inr (x1))), (3, .inl (v1)), (4, .inl (v2)), (5, .inl (v3))]) [3, 4, 2, 1, 0] rfl ?_
  exact (s_X5_seenBy_L19 1000000).1 x0 x1 v1 v2 v3 σ
def f_X8_told (x0 : Nat) (x1 : Int32) (x2 : Int32) (σ : eMem) : Option (Int32 × eMem) :=
  if (KH x0).1 = 7 then
    if (KH (RH x0 3)).1 = 11 ∧ eix x1 (KH (RH x0 3)).2 = true then
      some (((σ.1 (RH x0 3) x1.toNatClampNeg) * (if (9 : Int32) < x2 then (9 : Int32) else x2)), σ)
    else none
  else none
set_option maxHeartbeats 4000000 in
set_option maxRecDepth 20000 in
theorem s_X8_told (x0 : Nat) (x1 : Int32) (x2 : Int32) (σ : eMem) : ∀ r, f_X8_told x0 x1 x2 σ = some r → Ew false 1 79 [.inr (.inr (x0)), .inl (x1), .inl (x2)] (hp σ) (cN iI r) := by
  refine T_meth (md := m_X8_told) (d0 := 0) (cv := (cN iI)) rfl (lb rfl) (lb rfl) ?_
  unfold f_X8_told
  show Snd false none _ _ _ _ (0, [(0, .inr (.inr (x0))), (1, .inl (x1)), (2, .inl (x2))], [], hp σ, 0, 0)
  refine T_go (S' := (1, [(0, .inr (.inr (x0))), (1, .inl (x1)), (2, .inl (x2))], [.inr (.inr (x0))], hp σ, 0, 0)) 1 rfl ?_
  refine T_getR rfl (fun _ => ?_)
  refine T_go (S' := (5, [(0, .inr (.inr (x0))), (1, .inl (x1)), (2, .inl (x2))], [.inl (x1), .inr (.inr ((RH x0 3)))], hp σ, 0, 0)) 1 rfl ?_
  refine T_iald rfl (fun _ => ?_)
  refine T_go (S' := (9, [(0, .inr (.inr (x0))), (1, .inl (x1)), (2, .inl (x2))], [.inl ((9 : Int32)), .inl (x2), .inl ((σ.1 (RH x0 3) x1.toNatClampNeg))], hp σ, 0, 0)) 2 rfl ?_
  refine T_mmin (lb rfl) rfl ?_
  refine T_go (S' := (13, [(0, .inr (.inr (x0))), (1, .inl (x1)), (2, .inl (x2))], [.inl (((σ.1 (RH x0 3) x1.toNatClampNeg) * (if (9 : Int32) < x2 then (9 : Int32) else x2)))], hp σ, 0, 0)) 1 rfl ?_
  exact T_ret rfl
def f_X5_outcomeOf_L46 : Nat → (Nat × Nat × Int32 × Int32 × Int32 ⊕ (Nat × Nat × Int32 × Int32 × Int32)) → eMem → Option (Int32 × eMem)
  | 0, _, _ => none
  | n + 1, .inl (x0, x1, x2, x3, x4), σ =>
    if x2 ≤ x4 then
      some (x3, σ)
    else
      if (KH x0).1 = 4 then
        if (KH (RH x0 0)).1 = 11 ∧ eix x4 (KH (RH x0 0)).2 = true then
          eLet ((σ.1 (RH x0 0) x4.toNatClampNeg) : Int32) (fun v1 =>
            if (KH x0).1 = 4 then
              Option.bind (f_X5_seenBy x0 x1 v1 σ) (fun r2 =>
                if (KH x1).1 = 7 then
                  Option.bind (f_X8_told x1 v1 r2.1 r2.2) (fun r3 =>
                    eLet ((x3 + r3.1) : Int32) (fun v4 =>
                      if (KH x0).1 = 4 then
                        if (KH (RH x0 1)).1 = 13 ∧ eix v1 (KH (RH x0 1)).2 = true ∧ eB (1 : Int32) = true then eLet ((eup r3.2.1 (RH x0 1) v1.toNatClampNeg (1 : Int32), r3.2.2) : eMem) (fun σ5 =>
                          if (KH x1).1 = 7 then
                            if (KH (RH x1 0)).1 = 11 ∧ eix v1 (KH (RH x1 0)).2 = true then
                              if ¬ (σ5.1 (RH x1 0) v1.toNatClampNeg) = (0 : Int32) then
                                if (KH x1).1 = 7 then
                                  if (KH (RH x1 0)).1 = 11 ∧ eix v1 (KH (RH x1 0)).2 = true then
                                    if ¬ (σ5.1 (RH x1 0) v1.toNatClampNeg) = (3 : Int32) then
                                      f_X5_outcomeOf_L46 n (.inr ((x0, x1, x2, v4, x4))) σ5
                                    else
                                      if (KH x0).1 = 4 then
                                        if (KH x1).1 = 7 then
                                          if (KH (RH x1 1)).1 = 11 ∧ eix v1 (KH (RH x1 1)).2 = true then
                                            if (KH (RH x0 2)).1 = 11 ∧ eix (σ5.1 (RH x1 1) v1.toNatClampNeg) (KH (RH x0 2)).2 = true then
                                              if (KH (RH x0 2)).1 = 11 ∧ eix (σ5.1 (RH x1 1) v1.toNatClampNeg) (KH (RH x0 2)).2 = true then eLet ((eup σ5.1 (RH x0 2) (σ5.1 (RH x1 1) v1.toNatClampNeg).toNatClampNeg ((σ5.1 (RH x0 2) (σ5.1 (RH x1 1) v1.toNatClampNeg).toNatClampNeg) + (1 : Int32)), σ5.2) : eMem) (fun σ6 =>
                                                f_X5_outcomeOf_L46 n (.inr ((x0, x1, x2, v4, x4))) σ6
                                                ) else none
                                            else none
                                          else none
                                        else none
                                      else none
                                  else none
                                else none
                              else
                                if (KH x0).1 = 4 then
                                  if (KH x1).1 = 7 then
                                    if (KH (RH x1 1)).1 = 11 ∧ eix v1 (KH (RH x1 1)).2 = true then
                                      if (KH x1).1 = 7 then
                                        if (KH (RH x1 2)).1 = 11 ∧ eix v1 (KH (RH x1 2)).2 = true then
                                          if (KH (RH x0 2)).1 = 11 ∧ eix (σ5.1 (RH x1 1) v1.toNatClampNeg) (KH (RH x0 2)).2 = true then eLet ((eup σ5.1 (RH x0 2) (σ5.1 (RH x1 1) v1.toNatClampNeg).toNatClampNeg (σ5.1 (RH x1 2) v1.toNatClampNeg), σ5.2) : eMem) (fun σ7 =>
                                            f_X5_outcomeOf_L46 n (.inr ((x0, x1, x2, v4, x4))) σ7
                                            ) else none
                                        else none
                                      else none
                                    else none
                                  else none
                                else none
                            else none
                          else none
                          ) else none
                      else none
                      )
                    )
                else none
                )
            else none
            )
        else none
      else none
  | n + 1, .inr ((x0, x1, x2, x3, x4)), σ =>
    f_X5_outcomeOf_L46 n (.inl (x0, x1, x2, x3, (x4 + (1 : Int32)))) σ
set_option maxHeartbeats 4000000 in
set_option maxRecDepth 20000 in
theorem s_X5_outcomeOf_L46 : ∀ (n : Nat), (∀ (x0 : Nat) (x1 : Nat) (x2 : Int32) (x3 : Int32) (x4 : Int32) (σ : eMem), Snd false none 1 m_X5_outcomeOf (f_X5_outcomeOf_L46 n (.inl (x0, x1, x2, x3, x4)) σ) (cN iI) (46, [(0, .inr (.inr (x0))), (1, .inr (.inr (x1))), (2, .inl (x2)), (3, .inl (x3)), (4, .inl (x4))], [], hp σ, 0, 0)) ∧ (∀ (x0 : Nat) (x1 : Nat) (x2 : Int32) (x3 : Int32) (x4 : Int32) (σ : eMem), Snd false none 1 m_X5_outcomeOf (f_X5_outcomeOf_L46 n (.inr ((x0, x1, x2, x3, x4))) σ) (cN iI) (144, [(0, .inr (.inr (x0))), (1, .inr (.inr (x1))), (2, .inl (x2)), (3, .inl (x3)), (4, .inl (x4))], [], hp σ, 0, 0)) := by
  intro n
  induction n with
  | zero => exact ⟨fun _ _ _ _ _ _ => T_none, fun _ _ _ _ _ _ => T_none⟩
  | succ n ih =>
    refine ⟨?_, ?_⟩
    · intro x0 x1 x2 x3 x4 σ
      unfold f_X5_outcomeOf_L46
      refine T_go (S' := (49, [(0, .inr (.inr (x0))), (1, .inr (.inr (x1))), (2, .inl (x2)), (3, .inl (x3)), (4, .inl (x4))], [.inl (x2), .inl (x4)], hp σ, 0, 0)) 2 rfl ?_
      refine T_icmp_ge 150 rfl rfl (fun _ => ?_) (fun _ => ?_)
      · refine T_go (S' := (151, [(0, .inr (.inr (x0))), (1, .inr (.inr (x1))), (2, .inl (x2)), (3, .inl (x3)), (4, .inl (x4))], [.inl (x3)], hp σ, 0, 0)) 1 rfl ?_
        exact T_ret rfl
      · refine T_go (S' := (53, [(0, .inr (.inr (x0))), (1, .inr (.inr (x1))), (2, .inl (x2)), (3, .inl (x3)), (4, .inl (x4))], [.inr (.inr (x0))], hp σ, 0, 0)) 1 rfl ?_
        refine T_getR rfl (fun _ => ?_)
        refine T_go (S' := (58, [(0, .inr (.inr (x0))), (1, .inr (.inr (x1))), (2, .inl (x2)), (3, .inl (x3)), (4, .inl (x4))], [.inl (x4), .inr (.inr ((RH x0 0)))], hp σ, 0, 0)) 1 rfl ?_
        refine T_iald rfl (fun _ => ?_)
        refine T_go (S' := (61, [(5, .inl ((σ.1 (RH x0 0) x4.toNatClampNeg))), (0, .inr (.inr (x0))), (1, .inr (.inr (x1))), (2, .inl (x2)), (3, .inl (x3)), (4, .inl (x4))], [], hp σ, 0, 0)) 1 rfl ?_
        refine T_let (Sf := fun v1 => (61, [(5, .inl (v1)), (0, .inr (.inr (x0))), (1, .inr (.inr (x1))), (2, .inl (x2)), (3, .inl (x3)), (4, .inl (x4))], [], hp σ, 0, 0)) (fun v1 => ?_)
        refine T_go (S' := (69, [(5, .inl (v1)), (0, .inr (.inr (x0))), (1, .inr (.inr (x1))), (2, .inl (x2)), (3, .inl (x3)), (4, .inl (x4))], [.inl (v1), .inr (.inr (x1)), .inr (.inr (x0)), .inl (v1), .inr (.inr (x1)), .inl (x3)], hp σ, 0, 0)) 6 rfl ?_
        refine T_cv (i := iI) (as := [.inr (.inr (x0)), .inr (.inr (x1)), .inl (v1)]) (rest := [.inl (v1), .inr (.inr (x1)), .inl (x3)]) (st := [.inl (v1), .inr (.inr (x1)), .inr (.inr (x0)), .inl (v1), .inr (.inr (x1)), .inl (x3)]) rfl rfl rfl ⟨lb rfl, lb rfl, lb rfl, lb rfl⟩ (fun _ h => Ew_le (lb rfl) (s_X5_seenBy x0 x1 v1 σ _ h)) (fun _ r2 => ?_)
        show Snd false none _ _ _ (cN iI) (72, [(5, .inl (v1)), (0, .inr (.inr (x0))), (1, .inr (.inr (x1))), (2, .inl (x2)), (3, .inl (x3)), (4, .inl (x4))], [.inl (r2.1), .inl (v1), .inr (.inr (x1)), .inl (x3)], hp r2.2, 0, 0)
        refine T_cv (i := iI) (as := [.inr (.inr (x1)), .inl (v1), .inl (r2.1)]) (rest := [.inl (x3)]) (st := [.inl (r2.1), .inl (v1), .inr (.inr (x1)), .inl (x3)]) rfl rfl rfl ⟨lb rfl, lb rfl, lb rfl, lb rfl⟩ (fun _ h => Ew_le (lb rfl) (s_X8_told x1 v1 r2.1 r2.2 _ h)) (fun _ r3 => ?_)
        show Snd false none _ _ _ (cN iI) (75, [(5, .inl (v1)), (0, .inr (.inr (x0))), (1, .inr (.inr (x1))), (2, .inl (x2)), (3, .inl (x3)), (4, .inl (x4))], [.inl (r3.1), .inl (x3)], hp r3.2, 0, 0)
        refine T_go (S' := (77, [(3, .inl ((x3 + r3.1))), (5, .inl (v1)), (0, .inr (.inr (x0))), (1, .inr (.inr (x1))), (2, .inl (x2)), (4, .inl (x4))], [], hp r3.2, 0, 0)) 2 rfl ?_
        refine T_let (Sf := fun v4 => (77, [(3, .inl (v4)), (5, .inl (v1)), (0, .inr (.inr (x0))), (1, .inr (.inr (x1))), (2, .inl (x2)), (4, .inl (x4))], [], hp r3.2, 0, 0)) (fun v4 => ?_)
        refine T_go (S' := (78, [(3, .inl (v4)), (5, .inl (v1)), (0, .inr (.inr (x0))), (1, .inr (.inr (x1))), (2, .inl (x2)), (4, .inl (x4))], [.inr (.inr (x0))], hp r3.2, 0, 0)) 1 rfl ?_
        refine T_getR rfl (fun _ => ?_)
        refine T_go (S' := (84, [(3, .inl (v4)), (5, .inl (v1)), (0, .inr (.inr (x0))), (1, .inr (.inr (x1))), (2, .inl (x2)), (4, .inl (x4))], [.inl ((1 : Int32)), .inl (v1), .inr (.inr ((RH x0 1)))], hp r3.2, 0, 0)) 2 rfl ?_
        refine T_bast rfl (fun _ => ?_)
        refine T_let (Sf := fun σ5 => (85, [(3, .inl (v4)), (5, .inl (v1)), (0, .inr (.inr (x0))), (1, .inr (.inr (x1))), (2, .inl (x2)), (4, .inl (x4))], [], hp σ5, 0, 0)) (fun σ5 => ?_)
        refine T_go (S' := (86, [(3, .inl (v4)), (5, .inl (v1)), (0, .inr (.inr (x0))), (1, .inr (.inr (x1))), (2, .inl (x2)), (4, .inl (x4))], [.inr (.inr (x1))], hp σ5, 0, 0)) 1 rfl ?_
        refine T_getR rfl (fun _ => ?_)
        refine T_go (S' := (91, [(3, .inl (v4)), (5, .inl (v1)), (0, .inr (.inr (x0))), (1, .inr (.inr (x1))), (2, .inl (x2)), (4, .inl (x4))], [.inl (v1), .inr (.inr ((RH x1 0)))], hp σ5, 0, 0)) 1 rfl ?_
        refine T_iald rfl (fun _ => ?_)
        refine T_if_ne 117 rfl rfl (fun _ => ?_) (fun _ => ?_)
        · refine T_go (S' := (118, [(3, .inl (v4)), (5, .inl (v1)), (0, .inr (.inr (x0))), (1, .inr (.inr (x1))), (2, .inl (x2)), (4, .inl (x4))], [.inr (.inr (x1))], hp σ5, 0, 0)) 1 rfl ?_
          refine T_getR rfl (fun _ => ?_)
          refine T_go (S' := (123, [(3, .inl (v4)), (5, .inl (v1)), (0, .inr (.inr (x0))), (1, .inr (.inr (x1))), (2, .inl (x2)), (4, .inl (x4))], [.inl (v1), .inr (.inr ((RH x1 0)))], hp σ5, 0, 0)) 1 rfl ?_
          refine T_iald rfl (fun _ => ?_)
          refine T_go (S' := (125, [(3, .inl (v4)), (5, .inl (v1)), (0, .inr (.inr (x0))), (1, .inr (.inr (x1))), (2, .inl (x2)), (4, .inl (x4))], [.inl ((3 : Int32)), .inl ((σ5.1 (RH x1 0) v1.toNatClampNeg))], hp σ5, 0, 0)) 1 rfl ?_
          refine T_icmp_ne 144 rfl rfl (fun _ => ?_) (fun _ => ?_)
          · refine T_loc (ls' := [(0, .inr (.inr (x0))), (1, .inr (.inr (x1))), (2, .inl (x2)), (3, .inl (v4)), (4, .inl (x4))]) [2, 3, 4, 0, 5] rfl ?_
            exact (ih.2) x0 x1 x2 v4 x4 σ5
          · refine T_go (S' := (129, [(3, .inl (v4)), (5, .inl (v1)), (0, .inr (.inr (x0))), (1, .inr (.inr (x1))), (2, .inl (x2)), (4, .inl (x4))], [.inr (.inr (x0))], hp σ5, 0, 0)) 1 rfl ?_
            refine T_getR rfl (fun _ => ?_)
            refine T_go (S' := (133, [(3, .inl (v4)), (5, .inl (v1)), (0, .inr (.inr (x0))), (1, .inr (.inr (x1))), (2, .inl (x2)), (4, .inl (x4))], [.inr (.inr (x1)), .inr (.inr ((RH x0 2)))], hp σ5, 0, 0)) 1 rfl ?_
            refine T_getR rfl (fun _ => ?_)
            refine T_go (S' := (138, [(3, .inl (v4)), (5, .inl (v1)), (0, .inr (.inr (x0))), (1, .inr (.inr (x1))), (2, .inl (x2)), (4, .inl (x4))], [.inl (v1), .inr (.inr ((RH x1 1))), .inr (.inr ((RH x0 2)))], hp σ5, 0, 0)) 1 rfl ?_
            refine T_iald rfl (fun _ => ?_)
            refine T_go (S' := (140, [(3, .inl (v4)), (5, .inl (v1)), (0, .inr (.inr (x0))), (1, .inr (.inr (x1))), (2, .inl (x2)), (4, .inl (x4))], [.inl ((σ5.1 (RH x1 1) v1.toNatClampNeg)), .inr (.inr ((RH x0 2))), .inl ((σ5.1 (RH x1 1) v1.toNatClampNeg)), .inr (.inr ((RH x0 2)))], hp σ5, 0, 0)) 1 rfl ?_
            refine T_iald rfl (fun _ => ?_)
            refine T_go (S' := (143, [(3, .inl (v4)), (5, .inl (v1)), (0, .inr (.inr (x0))), (1, .inr (.inr (x1))), (2, .inl (x2)), (4, .inl (x4))], [.inl (((σ5.1 (RH x0 2) (σ5.1 (RH x1 1) v1.toNatClampNeg).toNatClampNeg) + (1 : Int32))), .inl ((σ5.1 (RH x1 1) v1.toNatClampNeg)), .inr (.inr ((RH x0 2)))], hp σ5, 0, 0)) 2 rfl ?_
            refine T_iast rfl (fun _ => ?_)
            refine T_let (Sf := fun σ6 => (144, [(3, .inl (v4)), (5, .inl (v1)), (0, .inr (.inr (x0))), (1, .inr (.inr (x1))), (2, .inl (x2)), (4, .inl (x4))], [], hp σ6, 0, 0)) (fun σ6 => ?_)
            refine T_loc (ls' := [(0, .inr (.inr (x0))), (1, .inr (.inr (x1))), (2, .inl (x2)), (3, .inl (v4)), (4, .inl (x4))]) [2, 3, 4, 0, 5] rfl ?_
            exact (ih.2) x0 x1 x2 v4 x4 σ6
        · refine T_go (S' := (96, [(3, .inl (v4)), (5, .inl (v1)), (0, .inr (.inr (x0))), (1, .inr (.inr (x1))), (2, .inl (x2)), (4, .inl (x4))], [.inr (.inr (x0))], hp σ5, 0, 0)) 1 rfl ?_
          refine T_getR rfl (fun _ => ?_)
          refine T_go (S' := (100, [(3, .inl (v4)), (5, .inl (v1)), (0, .inr (.inr (x0))), (1, .inr (.inr (x1))), (2, .inl (x2)), (4, .inl (x4))], [.inr (.inr (x1)), .inr (.inr ((RH x0 2)))], hp σ5, 0, 0)) 1 rfl ?_
          refine T_getR rfl (fun _ => ?_)
          refine T_go (S' := (105, [(3, .inl (v4)), (5, .inl (v1)), (0, .inr (.inr (x0))), (1, .inr (.inr (x1))), (2, .inl (x2)), (4, .inl (x4))], [.inl (v1), .inr (.inr ((RH x1 1))), .inr (.inr ((RH x0 2)))], hp σ5, 0, 0)) 1 rfl ?_
          refine T_iald rfl (fun _ => ?_)
          refine T_go (S' := (107, [(3, .inl (v4)), (5, .inl (v1)), (0, .inr (.inr (x0))), (1, .inr (.inr (x1))), (2, .inl (x2)), (4, .inl (x4))], [.inr (.inr (x1)), .inl ((σ5.1 (RH x1 1) v1.toNatClampNeg)), .inr (.inr ((RH x0 2)))], hp σ5, 0, 0)) 1 rfl ?_
          refine T_getR rfl (fun _ => ?_)
          refine T_go (S' := (112, [(3, .inl (v4)), (5, .inl (v1)), (0, .inr (.inr (x0))), (1, .inr (.inr (x1))), (2, .inl (x2)), (4, .inl (x4))], [.inl (v1), .inr (.inr ((RH x1 2))), .inl ((σ5.1 (RH x1 1) v1.toNatClampNeg)), .inr (.inr ((RH x0 2)))], hp σ5, 0, 0)) 1 rfl ?_
          refine T_iald rfl (fun _ => ?_)
          refine T_iast rfl (fun _ => ?_)
          refine T_let (Sf := fun σ7 => (114, [(3, .inl (v4)), (5, .inl (v1)), (0, .inr (.inr (x0))), (1, .inr (.inr (x1))), (2, .inl (x2)), (4, .inl (x4))], [], hp σ7, 0, 0)) (fun σ7 => ?_)
          refine T_go (S' := (144, [(3, .inl (v4)), (5, .inl (v1)), (0, .inr (.inr (x0))), (1, .inr (.inr (x1))), (2, .inl (x2)), (4, .inl (x4))], [], hp σ7, 0, 0)) 1 rfl ?_
          refine T_loc (ls' := [(0, .inr (.inr (x0))), (1, .inr (.inr (x1))), (2, .inl (x2)), (3, .inl (v4)), (4, .inl (x4))]) [2, 3, 4, 0, 5] rfl ?_
          exact (ih.2) x0 x1 x2 v4 x4 σ7
    · intro x0 x1 x2 x3 x4 σ
      unfold f_X5_outcomeOf_L46
      refine T_go (S' := (46, [(4, .inl ((x4 + (1 : Int32)))), (0, .inr (.inr (x0))), (1, .inr (.inr (x1))), (2, .inl (x2)), (3, .inl (x3))], [], hp σ, 0, 0)) 2 rfl ?_
      refine T_loc (ls' := [(0, .inr (.inr (x0))), (1, .inr (.inr (x1))), (2, .inl (x2)), (3, .inl (x3)), (4, .inl ((x4 + (1 : Int32))))]) [1, 2, 3, 4, 0] rfl ?_
      exact (ih.1) x0 x1 x2 x3 (x4 + (1 : Int32)) σ
def f_X5_outcomeOf_22 : Nat → Nat → Nat → Int32 → Int32 → eMem → Option (Int32 × eMem)
  | 0, _, _, _, _, _ => none
  | n + 1, x0, x1, x2, x3, σ =>
    if (12 : Int32) ≤ x3 then
      f_X5_outcomeOf_L46 1000000 (.inl (x0, x1, x2, (0 : Int32), (0 : Int32))) σ
    else
      if (KH x0).1 = 4 then
        if (KH (RH x0 1)).1 = 13 ∧ eix x3 (KH (RH x0 1)).2 = true ∧ eB (0 : Int32) = true then eLet ((eup σ.1 (RH x0 1) x3.toNatClampNeg (0 : Int32), σ.2) : eMem) (fun σ1 =>
          f_X5_outcomeOf_22 n x0 x1 x2 (x3 + (1 : Int32)) σ1
          ) else none
      else none
set_option maxHeartbeats 4000000 in
set_option maxRecDepth 20000 in
theorem s_X5_outcomeOf_22 : ∀ (n : Nat) (x0 : Nat) (x1 : Nat) (x2 : Int32) (x3 : Int32) (σ : eMem), Snd false none 1 m_X5_outcomeOf (f_X5_outcomeOf_22 n x0 x1 x2 x3 σ) (cN iI) (22, [(0, .inr (.inr (x0))), (1, .inr (.inr (x1))), (2, .inl (x2)), (3, .inl (x3))], [], hp σ, 0, 0) := by
  intro n
  induction n with
  | zero => exact fun _ _ _ _ _ => T_none
  | succ n ih =>
    intro x0 x1 x2 x3 σ
    unfold f_X5_outcomeOf_22
    refine T_go (S' := (25, [(0, .inr (.inr (x0))), (1, .inr (.inr (x1))), (2, .inl (x2)), (3, .inl (x3))], [.inl ((12 : Int32)), .inl (x3)], hp σ, 0, 0)) 2 rfl ?_
    refine T_icmp_ge 41 rfl rfl (fun _ => ?_) (fun _ => ?_)
    · refine T_go (S' := (46, [(4, .inl ((0 : Int32))), (3, .inl ((0 : Int32))), (0, .inr (.inr (x0))), (1, .inr (.inr (x1))), (2, .inl (x2))], [], hp σ, 0, 0)) 4 rfl ?_
      refine T_loc (ls' := [(0, .inr (.inr (x0))), (1, .inr (.inr (x1))), (2, .inl (x2)), (3, .inl ((0 : Int32))), (4, .inl ((0 : Int32)))]) [2, 3, 4, 1, 0] rfl ?_
      exact (s_X5_outcomeOf_L46 1000000).1 x0 x1 x2 (0 : Int32) (0 : Int32) σ
    · refine T_go (S' := (29, [(0, .inr (.inr (x0))), (1, .inr (.inr (x1))), (2, .inl (x2)), (3, .inl (x3))], [.inr (.inr (x0))], hp σ, 0, 0)) 1 rfl ?_
      refine T_getR rfl (fun _ => ?_)
      refine T_go (S' := (34, [(0, .inr (.inr (x0))), (1, .inr (.inr (x1))), (2, .inl (x2)), (3, .inl (x3))], [.inl ((0 : Int32)), .inl (x3), .inr (.inr ((RH x0 1)))], hp σ, 0, 0)) 2 rfl ?_
      refine T_bast rfl (fun _ => ?_)
      refine T_let (Sf := fun σ1 => (35, [(0, .inr (.inr (x0))), (1, .inr (.inr (x1))), (2, .inl (x2)), (3, .inl (x3))], [], hp σ1, 0, 0)) (fun σ1 => ?_)
      refine T_go (S' := (22, [(3, .inl ((x3 + (1 : Int32)))), (0, .inr (.inr (x0))), (1, .inr (.inr (x1))), (2, .inl (x2))], [], hp σ1, 0, 0)) 2 rfl ?_
      refine T_loc (ls' := [(0, .inr (.inr (x0))), (1, .inr (.inr (x1))), (2, .inl (x2)), (3, .inl ((x3 + (1 : Int32))))]) [1, 2, 3, 0] rfl ?_
      exact ih x0 x1 x2 (x3 + (1 : Int32)) σ1
def f_X5_outcomeOf_2 : Nat → Nat → Nat → Int32 → Int32 → eMem → Option (Int32 × eMem)
  | 0, _, _, _, _, _ => none
  | n + 1, x0, x1, x2, x3, σ =>
    if (3 : Int32) ≤ x3 then
      f_X5_outcomeOf_22 1000000 x0 x1 x2 (0 : Int32) σ
    else
      if (KH x0).1 = 4 then
        if (KH (RH x0 2)).1 = 11 ∧ eix x3 (KH (RH x0 2)).2 = true then eLet ((eup σ.1 (RH x0 2) x3.toNatClampNeg (0 : Int32), σ.2) : eMem) (fun σ1 =>
          f_X5_outcomeOf_2 n x0 x1 x2 (x3 + (1 : Int32)) σ1
          ) else none
      else none
set_option maxHeartbeats 4000000 in
set_option maxRecDepth 20000 in
theorem s_X5_outcomeOf_2 : ∀ (n : Nat) (x0 : Nat) (x1 : Nat) (x2 : Int32) (x3 : Int32) (σ : eMem), Snd false none 1 m_X5_outcomeOf (f_X5_outcomeOf_2 n x0 x1 x2 x3 σ) (cN iI) (2, [(0, .inr (.inr (x0))), (1, .inr (.inr (x1))), (2, .inl (x2)), (3, .inl (x3))], [], hp σ, 0, 0) := by
  intro n
  induction n with
  | zero => exact fun _ _ _ _ _ => T_none
  | succ n ih =>
    intro x0 x1 x2 x3 σ
    unfold f_X5_outcomeOf_2
    refine T_go (S' := (4, [(0, .inr (.inr (x0))), (1, .inr (.inr (x1))), (2, .inl (x2)), (3, .inl (x3))], [.inl ((3 : Int32)), .inl (x3)], hp σ, 0, 0)) 2 rfl ?_
    refine T_icmp_ge 20 rfl rfl (fun _ => ?_) (fun _ => ?_)
    · refine T_go (S' := (22, [(3, .inl ((0 : Int32))), (0, .inr (.inr (x0))), (1, .inr (.inr (x1))), (2, .inl (x2))], [], hp σ, 0, 0)) 2 rfl ?_
      refine T_loc (ls' := [(0, .inr (.inr (x0))), (1, .inr (.inr (x1))), (2, .inl (x2)), (3, .inl ((0 : Int32)))]) [1, 2, 3, 0] rfl ?_
      exact s_X5_outcomeOf_22 1000000 x0 x1 x2 (0 : Int32) σ
    · refine T_go (S' := (8, [(0, .inr (.inr (x0))), (1, .inr (.inr (x1))), (2, .inl (x2)), (3, .inl (x3))], [.inr (.inr (x0))], hp σ, 0, 0)) 1 rfl ?_
      refine T_getR rfl (fun _ => ?_)
      refine T_go (S' := (13, [(0, .inr (.inr (x0))), (1, .inr (.inr (x1))), (2, .inl (x2)), (3, .inl (x3))], [.inl ((0 : Int32)), .inl (x3), .inr (.inr ((RH x0 2)))], hp σ, 0, 0)) 2 rfl ?_
      refine T_iast rfl (fun _ => ?_)
      refine T_let (Sf := fun σ1 => (14, [(0, .inr (.inr (x0))), (1, .inr (.inr (x1))), (2, .inl (x2)), (3, .inl (x3))], [], hp σ1, 0, 0)) (fun σ1 => ?_)
      refine T_go (S' := (2, [(3, .inl ((x3 + (1 : Int32)))), (0, .inr (.inr (x0))), (1, .inr (.inr (x1))), (2, .inl (x2))], [], hp σ1, 0, 0)) 2 rfl ?_
      refine T_loc (ls' := [(0, .inr (.inr (x0))), (1, .inr (.inr (x1))), (2, .inl (x2)), (3, .inl ((x3 + (1 : Int32))))]) [1, 2, 3, 0] rfl ?_
      exact ih x0 x1 x2 (x3 + (1 : Int32)) σ1
def f_X5_outcomeOf (x0 : Nat) (x1 : Nat) (x2 : Int32) (σ : eMem) : Option (Int32 × eMem) :=
  f_X5_outcomeOf_2 1000000 x0 x1 x2 (0 : Int32) σ
set_option maxHeartbeats 4000000 in
set_option maxRecDepth 20000 in
theorem s_X5_outcomeOf (x0 : Nat) (x1 : Nat) (x2 : Int32) (σ : eMem) : ∀ r, f_X5_outcomeOf x0 x1 x2 σ = some r → Ew false 2 58 [.inr (.inr (x0)), .inr (.inr (x1)), .inl (x2)] (hp σ) (cN iI r) := by
  refine T_meth (md := m_X5_outcomeOf) (d0 := 1) (cv := (cN iI)) rfl (lb rfl) (lb rfl) ?_
  unfold f_X5_outcomeOf
  show Snd false none _ _ _ _ (0, [(0, .inr (.inr (x0))), (1, .inr (.inr (x1))), (2, .inl (x2))], [], hp σ, 0, 0)
  refine T_go (S' := (2, [(3, .inl ((0 : Int32))), (0, .inr (.inr (x0))), (1, .inr (.inr (x1))), (2, .inl (x2))], [], hp σ, 0, 0)) 2 rfl ?_
  refine T_loc (ls' := [(0, .inr (.inr (x0))), (1, .inr (.inr (x1))), (2, .inl (x2)), (3, .inl ((0 : Int32)))]) [1, 2, 3, 0] rfl ?_
  exact s_X5_outcomeOf_2 1000000 x0 x1 x2 (0 : Int32) σ
def f_X6_forget (x0 : Nat) (σ : eMem) : Option (Unit × eMem) :=
  if (KH x0).1 = 5 then eLet ((eup σ.1 x0 1 (0 : Int32), σ.2) : eMem) (fun σ1 =>
    if (KH x0).1 = 5 ∧ eB (0 : Int32) = true then eLet ((eup σ1.1 x0 2 (0 : Int32), σ1.2) : eMem) (fun σ2 =>
      some ((), σ2)
      ) else none
    ) else none
set_option maxHeartbeats 4000000 in
set_option maxRecDepth 20000 in
theorem s_X6_forget (x0 : Nat) (σ : eMem) : ∀ r, f_X6_forget x0 σ = some r → Ew false 1 61 [.inr (.inr (x0))] (hp σ) (cN iU r) := by
  refine T_meth (md := m_X6_forget) (d0 := 0) (cv := (cN iU)) rfl (lb rfl) (lb rfl) ?_
  unfold f_X6_forget
  show Snd false none _ _ _ _ (0, [(0, .inr (.inr (x0)))], [], hp σ, 0, 0)
  refine T_go (S' := (2, [(0, .inr (.inr (x0)))], [.inl ((0 : Int32)), .inr (.inr (x0))], hp σ, 0, 0)) 2 rfl ?_
  refine T_putI rfl (fun _ => ?_)
  refine T_let (Sf := fun σ1 => (5, [(0, .inr (.inr (x0)))], [], hp σ1, 0, 0)) (fun σ1 => ?_)
  refine T_go (S' := (7, [(0, .inr (.inr (x0)))], [.inl ((0 : Int32)), .inr (.inr (x0))], hp σ1, 0, 0)) 2 rfl ?_
  refine T_putZ rfl (fun _ => ?_)
  refine T_let (Sf := fun σ2 => (10, [(0, .inr (.inr (x0)))], [], hp σ2, 0, 0)) (fun σ2 => ?_)
  exact T_ret rfl
def f_X6_include_64  (σ : eMem) : Option (Unit × eMem) :=
  some ((), σ)
set_option maxHeartbeats 4000000 in
set_option maxRecDepth 20000 in
theorem s_X6_include_64  (σ : eMem) : Snd false none 0 m_X6_include (f_X6_include_64 σ) (cN iU) (64, [], [], hp σ, 0, 0) := by
  unfold f_X6_include_64
  exact T_ret rfl
def f_X6_include_71 : Nat → Nat → Int32 → Int32 → Int32 → eMem → Option (Unit × eMem)
  | 0, _, _, _, _, _ => none
  | n + 1, x0, x1, x2, x4, σ =>
    if x4 ≤ x2 then
      if (KH x0).1 = 5 then
        if (KH (RH x0 0)).1 = 11 ∧ eix x2 (KH (RH x0 0)).2 = true then eLet ((eup σ.1 (RH x0 0) x2.toNatClampNeg x1, σ.2) : eMem) (fun σ1 =>
          if (KH x0).1 = 5 then
            if (KH x0).1 = 5 then eLet ((eup σ1.1 x0 1 ((σ1.1 x0 1) + (1 : Int32)), σ1.2) : eMem) (fun σ2 =>
              some ((), σ2)
              ) else none
          else none
          ) else none
      else none
    else
      if (KH x0).1 = 5 then
        if (KH x0).1 = 5 then
          if (KH (RH x0 0)).1 = 11 ∧ eix (x4 - (1 : Int32)) (KH (RH x0 0)).2 = true then
            if (KH (RH x0 0)).1 = 11 ∧ eix x4 (KH (RH x0 0)).2 = true then eLet ((eup σ.1 (RH x0 0) x4.toNatClampNeg (σ.1 (RH x0 0) (x4 - (1 : Int32)).toNatClampNeg), σ.2) : eMem) (fun σ3 =>
              f_X6_include_71 n x0 x1 x2 (x4 + (-1 : Int32)) σ3
              ) else none
          else none
        else none
      else none
set_option maxHeartbeats 4000000 in
set_option maxRecDepth 20000 in
theorem s_X6_include_71 : ∀ (n : Nat) (x0 : Nat) (x1 : Int32) (x2 : Int32) (x4 : Int32) (σ : eMem), Snd false none 0 m_X6_include (f_X6_include_71 n x0 x1 x2 x4 σ) (cN iU) (71, [(0, .inr (.inr (x0))), (1, .inl (x1)), (2, .inl (x2)), (4, .inl (x4))], [], hp σ, 0, 0) := by
  intro n
  induction n with
  | zero => exact fun _ _ _ _ _ => T_none
  | succ n ih =>
    intro x0 x1 x2 x4 σ
    unfold f_X6_include_71
    refine T_go (S' := (74, [(0, .inr (.inr (x0))), (1, .inl (x1)), (2, .inl (x2)), (4, .inl (x4))], [.inl (x2), .inl (x4)], hp σ, 0, 0)) 2 rfl ?_
    refine T_icmp_le 99 rfl rfl (fun _ => ?_) (fun _ => ?_)
    · refine T_go (S' := (100, [(0, .inr (.inr (x0))), (1, .inl (x1)), (2, .inl (x2)), (4, .inl (x4))], [.inr (.inr (x0))], hp σ, 0, 0)) 1 rfl ?_
      refine T_getR rfl (fun _ => ?_)
      refine T_go (S' := (105, [(0, .inr (.inr (x0))), (1, .inl (x1)), (2, .inl (x2)), (4, .inl (x4))], [.inl (x1), .inl (x2), .inr (.inr ((RH x0 0)))], hp σ, 0, 0)) 2 rfl ?_
      refine T_iast rfl (fun _ => ?_)
      refine T_let (Sf := fun σ1 => (106, [(0, .inr (.inr (x0))), (1, .inl (x1)), (2, .inl (x2)), (4, .inl (x4))], [], hp σ1, 0, 0)) (fun σ1 => ?_)
      refine T_go (S' := (108, [(0, .inr (.inr (x0))), (1, .inl (x1)), (2, .inl (x2)), (4, .inl (x4))], [.inr (.inr (x0)), .inr (.inr (x0))], hp σ1, 0, 0)) 2 rfl ?_
      refine T_getI rfl (fun _ => ?_)
      refine T_go (S' := (113, [(0, .inr (.inr (x0))), (1, .inl (x1)), (2, .inl (x2)), (4, .inl (x4))], [.inl (((σ1.1 x0 1) + (1 : Int32))), .inr (.inr (x0))], hp σ1, 0, 0)) 2 rfl ?_
      refine T_putI rfl (fun _ => ?_)
      refine T_let (Sf := fun σ2 => (116, [(0, .inr (.inr (x0))), (1, .inl (x1)), (2, .inl (x2)), (4, .inl (x4))], [], hp σ2, 0, 0)) (fun σ2 => ?_)
      exact T_ret rfl
    · refine T_go (S' := (78, [(0, .inr (.inr (x0))), (1, .inl (x1)), (2, .inl (x2)), (4, .inl (x4))], [.inr (.inr (x0))], hp σ, 0, 0)) 1 rfl ?_
      refine T_getR rfl (fun _ => ?_)
      refine T_go (S' := (84, [(0, .inr (.inr (x0))), (1, .inl (x1)), (2, .inl (x2)), (4, .inl (x4))], [.inr (.inr (x0)), .inl (x4), .inr (.inr ((RH x0 0)))], hp σ, 0, 0)) 2 rfl ?_
      refine T_getR rfl (fun _ => ?_)
      refine T_go (S' := (91, [(0, .inr (.inr (x0))), (1, .inl (x1)), (2, .inl (x2)), (4, .inl (x4))], [.inl ((x4 - (1 : Int32))), .inr (.inr ((RH x0 0))), .inl (x4), .inr (.inr ((RH x0 0)))], hp σ, 0, 0)) 3 rfl ?_
      refine T_iald rfl (fun _ => ?_)
      refine T_iast rfl (fun _ => ?_)
      refine T_let (Sf := fun σ3 => (93, [(0, .inr (.inr (x0))), (1, .inl (x1)), (2, .inl (x2)), (4, .inl (x4))], [], hp σ3, 0, 0)) (fun σ3 => ?_)
      refine T_go (S' := (71, [(4, .inl ((x4 + (-1 : Int32)))), (0, .inr (.inr (x0))), (1, .inl (x1)), (2, .inl (x2))], [], hp σ3, 0, 0)) 2 rfl ?_
      refine T_loc (ls' := [(0, .inr (.inr (x0))), (1, .inl (x1)), (2, .inl (x2)), (4, .inl ((x4 + (-1 : Int32))))]) [1, 2, 3, 0] rfl ?_
      exact ih x0 x1 x2 (x4 + (-1 : Int32)) σ3
def f_X6_include_49 (x0 : Nat) (x1 : Int32) (x2 : Int32) (s0 : Int32) (σ : eMem) : Option (Unit × eMem) :=
  if ¬ s0 = (0 : Int32) then
    f_X6_include_64  σ
  else
    if (KH x0).1 = 5 then
      if (σ.1 x0 1) < (720 : Int32) then
        if (KH x0).1 = 5 then
          eLet ((σ.1 x0 1) : Int32) (fun v1 =>
            f_X6_include_71 1000000 x0 x1 x2 v1 σ
            )
        else none
      else
        f_X6_include_64  σ
    else none
set_option maxHeartbeats 4000000 in
set_option maxRecDepth 20000 in
theorem s_X6_include_49 (x0 : Nat) (x1 : Int32) (x2 : Int32) (s0 : Int32) (σ : eMem) : Snd false none 0 m_X6_include (f_X6_include_49 x0 x1 x2 s0 σ) (cN iU) (49, [(0, .inr (.inr (x0))), (1, .inl (x1)), (2, .inl (x2))], [.inl (s0)], hp σ, 0, 0) := by
  unfold f_X6_include_49
  refine T_go (S' := (51, [(3, .inl (s0)), (0, .inr (.inr (x0))), (1, .inl (x1)), (2, .inl (x2))], [.inl (s0)], hp σ, 0, 0)) 2 rfl ?_
  refine T_if_ne 64 rfl rfl (fun _ => ?_) (fun _ => ?_)
  · refine T_loc (ls' := []) [] rfl ?_
    exact s_X6_include_64  σ
  · refine T_go (S' := (55, [(3, .inl (s0)), (0, .inr (.inr (x0))), (1, .inl (x1)), (2, .inl (x2))], [.inr (.inr (x0))], hp σ, 0, 0)) 1 rfl ?_
    refine T_getI rfl (fun _ => ?_)
    refine T_go (S' := (61, [(3, .inl (s0)), (0, .inr (.inr (x0))), (1, .inl (x1)), (2, .inl (x2))], [.inl ((720 : Int32)), .inl ((σ.1 x0 1))], hp σ, 0, 0)) 1 rfl ?_
    refine T_icmp_lt 65 rfl rfl (fun _ => ?_) (fun _ => ?_)
    · refine T_go (S' := (66, [(3, .inl (s0)), (0, .inr (.inr (x0))), (1, .inl (x1)), (2, .inl (x2))], [.inr (.inr (x0))], hp σ, 0, 0)) 1 rfl ?_
      refine T_getI rfl (fun _ => ?_)
      refine T_go (S' := (71, [(4, .inl ((σ.1 x0 1))), (3, .inl (s0)), (0, .inr (.inr (x0))), (1, .inl (x1)), (2, .inl (x2))], [], hp σ, 0, 0)) 1 rfl ?_
      refine T_let (Sf := fun v1 => (71, [(4, .inl (v1)), (3, .inl (s0)), (0, .inr (.inr (x0))), (1, .inl (x1)), (2, .inl (x2))], [], hp σ, 0, 0)) (fun v1 => ?_)
      refine T_loc (ls' := [(0, .inr (.inr (x0))), (1, .inl (x1)), (2, .inl (x2)), (4, .inl (v1))]) [2, 3, 4, 0] rfl ?_
      exact s_X6_include_71 1000000 x0 x1 x2 v1 σ
    · refine T_loc (ls' := []) [] rfl ?_
      exact s_X6_include_64  σ
def f_X6_include_48 (x0 : Nat) (x1 : Int32) (x2 : Int32) (σ : eMem) : Option (Unit × eMem) :=
  f_X6_include_49 x0 x1 x2 (0 : Int32) σ
set_option maxHeartbeats 4000000 in
set_option maxRecDepth 20000 in
theorem s_X6_include_48 (x0 : Nat) (x1 : Int32) (x2 : Int32) (σ : eMem) : Snd false none 0 m_X6_include (f_X6_include_48 x0 x1 x2 σ) (cN iU) (48, [(0, .inr (.inr (x0))), (1, .inl (x1)), (2, .inl (x2))], [], hp σ, 0, 0) := by
  unfold f_X6_include_48
  refine T_go (S' := (49, [(0, .inr (.inr (x0))), (1, .inl (x1)), (2, .inl (x2))], [.inl ((0 : Int32))], hp σ, 0, 0)) 1 rfl ?_
  refine T_loc (ls' := [(0, .inr (.inr (x0))), (1, .inl (x1)), (2, .inl (x2))]) [0, 1, 2] rfl ?_
  exact s_X6_include_49 x0 x1 x2 (0 : Int32) σ
def f_X6_include_26 (x0 : Nat) (x1 : Int32) (x2 : Int32) (σ : eMem) : Option (Unit × eMem) :=
  if (KH x0).1 = 5 then
    if (σ.1 x0 1) ≤ x2 then
      f_X6_include_48 x0 x1 x2 σ
    else
      if (KH x0).1 = 5 then
        if (KH (RH x0 0)).1 = 11 ∧ eix x2 (KH (RH x0 0)).2 = true then
          if ¬ (σ.1 (RH x0 0) x2.toNatClampNeg) = x1 then
            f_X6_include_48 x0 x1 x2 σ
          else
            f_X6_include_49 x0 x1 x2 (1 : Int32) σ
        else none
      else none
  else none
set_option maxHeartbeats 4000000 in
set_option maxRecDepth 20000 in
theorem s_X6_include_26 (x0 : Nat) (x1 : Int32) (x2 : Int32) (σ : eMem) : Snd false none 0 m_X6_include (f_X6_include_26 x0 x1 x2 σ) (cN iU) (26, [(0, .inr (.inr (x0))), (1, .inl (x1)), (2, .inl (x2))], [], hp σ, 0, 0) := by
  unfold f_X6_include_26
  refine T_go (S' := (28, [(0, .inr (.inr (x0))), (1, .inl (x1)), (2, .inl (x2))], [.inr (.inr (x0)), .inl (x2)], hp σ, 0, 0)) 2 rfl ?_
  refine T_getI rfl (fun _ => ?_)
  refine T_icmp_ge 48 rfl rfl (fun _ => ?_) (fun _ => ?_)
  · refine T_loc (ls' := [(0, .inr (.inr (x0))), (1, .inl (x1)), (2, .inl (x2))]) [0, 1, 2] rfl ?_
    exact s_X6_include_48 x0 x1 x2 σ
  · refine T_go (S' := (35, [(0, .inr (.inr (x0))), (1, .inl (x1)), (2, .inl (x2))], [.inr (.inr (x0))], hp σ, 0, 0)) 1 rfl ?_
    refine T_getR rfl (fun _ => ?_)
    refine T_go (S' := (39, [(0, .inr (.inr (x0))), (1, .inl (x1)), (2, .inl (x2))], [.inl (x2), .inr (.inr ((RH x0 0)))], hp σ, 0, 0)) 1 rfl ?_
    refine T_iald rfl (fun _ => ?_)
    refine T_go (S' := (41, [(0, .inr (.inr (x0))), (1, .inl (x1)), (2, .inl (x2))], [.inl (x1), .inl ((σ.1 (RH x0 0) x2.toNatClampNeg))], hp σ, 0, 0)) 1 rfl ?_
    refine T_icmp_ne 48 rfl rfl (fun _ => ?_) (fun _ => ?_)
    · refine T_loc (ls' := [(0, .inr (.inr (x0))), (1, .inl (x1)), (2, .inl (x2))]) [0, 1, 2] rfl ?_
      exact s_X6_include_48 x0 x1 x2 σ
    · refine T_go (S' := (49, [(0, .inr (.inr (x0))), (1, .inl (x1)), (2, .inl (x2))], [.inl ((1 : Int32))], hp σ, 0, 0)) 2 rfl ?_
      refine T_loc (ls' := [(0, .inr (.inr (x0))), (1, .inl (x1)), (2, .inl (x2))]) [0, 1, 2] rfl ?_
      exact s_X6_include_49 x0 x1 x2 (1 : Int32) σ
def f_X6_include_2 : Nat → Nat → Int32 → Int32 → eMem → Option (Unit × eMem)
  | 0, _, _, _, _ => none
  | n + 1, x0, x1, x2, σ =>
    if (KH x0).1 = 5 then
      if (σ.1 x0 1) ≤ x2 then
        f_X6_include_26 x0 x1 x2 σ
      else
        if (KH x0).1 = 5 then
          if (KH (RH x0 0)).1 = 11 ∧ eix x2 (KH (RH x0 0)).2 = true then
            if x1 ≤ (σ.1 (RH x0 0) x2.toNatClampNeg) then
              f_X6_include_26 x0 x1 x2 σ
            else
              f_X6_include_2 n x0 x1 (x2 + (1 : Int32)) σ
          else none
        else none
    else none
set_option maxHeartbeats 4000000 in
set_option maxRecDepth 20000 in
theorem s_X6_include_2 : ∀ (n : Nat) (x0 : Nat) (x1 : Int32) (x2 : Int32) (σ : eMem), Snd false none 0 m_X6_include (f_X6_include_2 n x0 x1 x2 σ) (cN iU) (2, [(0, .inr (.inr (x0))), (1, .inl (x1)), (2, .inl (x2))], [], hp σ, 0, 0) := by
  intro n
  induction n with
  | zero => exact fun _ _ _ _ => T_none
  | succ n ih =>
    intro x0 x1 x2 σ
    unfold f_X6_include_2
    refine T_go (S' := (4, [(0, .inr (.inr (x0))), (1, .inl (x1)), (2, .inl (x2))], [.inr (.inr (x0)), .inl (x2)], hp σ, 0, 0)) 2 rfl ?_
    refine T_getI rfl (fun _ => ?_)
    refine T_icmp_ge 26 rfl rfl (fun _ => ?_) (fun _ => ?_)
    · refine T_loc (ls' := [(0, .inr (.inr (x0))), (1, .inl (x1)), (2, .inl (x2))]) [0, 1, 2] rfl ?_
      exact s_X6_include_26 x0 x1 x2 σ
    · refine T_go (S' := (11, [(0, .inr (.inr (x0))), (1, .inl (x1)), (2, .inl (x2))], [.inr (.inr (x0))], hp σ, 0, 0)) 1 rfl ?_
      refine T_getR rfl (fun _ => ?_)
      refine T_go (S' := (15, [(0, .inr (.inr (x0))), (1, .inl (x1)), (2, .inl (x2))], [.inl (x2), .inr (.inr ((RH x0 0)))], hp σ, 0, 0)) 1 rfl ?_
      refine T_iald rfl (fun _ => ?_)
      refine T_go (S' := (17, [(0, .inr (.inr (x0))), (1, .inl (x1)), (2, .inl (x2))], [.inl (x1), .inl ((σ.1 (RH x0 0) x2.toNatClampNeg))], hp σ, 0, 0)) 1 rfl ?_
      refine T_icmp_ge 26 rfl rfl (fun _ => ?_) (fun _ => ?_)
      · refine T_loc (ls' := [(0, .inr (.inr (x0))), (1, .inl (x1)), (2, .inl (x2))]) [0, 1, 2] rfl ?_
        exact s_X6_include_26 x0 x1 x2 σ
      · refine T_go (S' := (2, [(2, .inl ((x2 + (1 : Int32)))), (0, .inr (.inr (x0))), (1, .inl (x1))], [], hp σ, 0, 0)) 2 rfl ?_
        refine T_loc (ls' := [(0, .inr (.inr (x0))), (1, .inl (x1)), (2, .inl ((x2 + (1 : Int32))))]) [1, 2, 0] rfl ?_
        exact ih x0 x1 (x2 + (1 : Int32)) σ
def f_X6_include (x0 : Nat) (x1 : Int32) (σ : eMem) : Option (Unit × eMem) :=
  f_X6_include_2 1000000 x0 x1 (0 : Int32) σ
set_option maxHeartbeats 4000000 in
set_option maxRecDepth 20000 in
theorem s_X6_include (x0 : Nat) (x1 : Int32) (σ : eMem) : ∀ r, f_X6_include x0 x1 σ = some r → Ew false 1 62 [.inr (.inr (x0)), .inl (x1)] (hp σ) (cN iU r) := by
  refine T_meth (md := m_X6_include) (d0 := 0) (cv := (cN iU)) rfl (lb rfl) (lb rfl) ?_
  unfold f_X6_include
  show Snd false none _ _ _ _ (0, [(0, .inr (.inr (x0))), (1, .inl (x1))], [], hp σ, 0, 0)
  refine T_go (S' := (2, [(2, .inl ((0 : Int32))), (0, .inr (.inr (x0))), (1, .inl (x1))], [], hp σ, 0, 0)) 2 rfl ?_
  refine T_loc (ls' := [(0, .inr (.inr (x0))), (1, .inl (x1)), (2, .inl ((0 : Int32)))]) [1, 2, 0] rfl ?_
  exact s_X6_include_2 1000000 x0 x1 (0 : Int32) σ
def f_X5_countOutcomes_68 (x0 : Nat) (σ : eMem) : Option (Int32 × eMem) :=
  if (KH x0).1 = 4 then
    if (KH (RH x0 3)).1 = 5 then
      some ((σ.1 (RH x0 3) 1), σ)
    else none
  else none
set_option maxHeartbeats 4000000 in
set_option maxRecDepth 20000 in
theorem s_X5_countOutcomes_68 (x0 : Nat) (σ : eMem) : Snd false none 2 m_X5_countOutcomes (f_X5_countOutcomes_68 x0 σ) (cN iI) (68, [(0, .inr (.inr (x0)))], [], hp σ, 0, 0) := by
  unfold f_X5_countOutcomes_68
  refine T_go (S' := (69, [(0, .inr (.inr (x0)))], [.inr (.inr (x0))], hp σ, 0, 0)) 1 rfl ?_
  refine T_getR rfl (fun _ => ?_)
  refine T_getI rfl (fun _ => ?_)
  exact T_ret rfl
def f_X5_countOutcomes_L19 : Nat → (Nat × Nat × Int32 × Int32 × Int32 × Int32 ⊕ (Nat × Nat × Int32 × Int32 × Int32)) → eMem → Option (Int32 × eMem)
  | 0, _, _ => none
  | n + 1, .inl (x0, x1, x2, x3, x4, x5), σ =>
    if (720 : Int32) ≤ x5 then
      f_X5_countOutcomes_68 x0 σ
    else
      if x4 = (0 : Int32) then
        f_X5_countOutcomes_68 x0 σ
      else
        if (KH x0).1 = 4 then
          Option.bind (f_X5_isAllowed x0 x1 x2 x3 σ) (fun r1 =>
            if r1.1 = (0 : Int32) then
              f_X5_countOutcomes_L19 n (.inr ((x0, x1, x2, x3, x5))) r1.2
            else
              if (KH x0).1 = 4 then
                if (KH x0).1 = 4 then
                  Option.bind (f_X5_outcomeOf x0 x1 x3 r1.2) (fun r2 =>
                    if (KH (RH x0 3)).1 = 5 then
                      Option.bind (f_X6_include (RH x0 3) r2.1 r2.2) (fun r3 =>
                        f_X5_countOutcomes_L19 n (.inr ((x0, x1, x2, x3, x5))) r3.2
                        )
                    else none
                    )
                else none
              else none
            )
        else none
  | n + 1, .inr ((x0, x1, x2, x3, x5)), σ =>
    if (KH x0).1 = 4 then
      Option.bind (f_X5_nextOrder x0 x3 σ) (fun r1 =>
        f_X5_countOutcomes_L19 n (.inl (x0, x1, x2, x3, r1.1, (x5 + (1 : Int32)))) r1.2
        )
    else none
set_option maxHeartbeats 4000000 in
set_option maxRecDepth 20000 in
theorem s_X5_countOutcomes_L19 : ∀ (n : Nat), (∀ (x0 : Nat) (x1 : Nat) (x2 : Int32) (x3 : Int32) (x4 : Int32) (x5 : Int32) (σ : eMem), Snd false none 2 m_X5_countOutcomes (f_X5_countOutcomes_L19 n (.inl (x0, x1, x2, x3, x4, x5)) σ) (cN iI) (19, [(0, .inr (.inr (x0))), (1, .inr (.inr (x1))), (2, .inl (x2)), (3, .inl (x3)), (4, .inl (x4)), (5, .inl (x5))], [], hp σ, 0, 0)) ∧ (∀ (x0 : Nat) (x1 : Nat) (x2 : Int32) (x3 : Int32) (x5 : Int32) (σ : eMem), Snd false none 2 m_X5_countOutcomes (f_X5_countOutcomes_L19 n (.inr ((x0, x1, x2, x3, x5))) σ) (cN iI) (55, [(0, .inr (.inr (x0))), (1, .inr (.inr (x1))), (2, .inl (x2)), (3, .inl (x3)), (5, .inl (x5))], [], hp σ, 0, 0)) := by
  intro n
  induction n with
  | zero => exact ⟨fun _ _ _ _ _ _ _ => T_none, fun _ _ _ _ _ _ => T_none⟩
  | succ n ih =>
    refine ⟨?_, ?_⟩
    · intro x0 x1 x2 x3 x4 x5 σ
      unfold f_X5_countOutcomes_L19
      refine T_go (S' := (24, [(0, .inr (.inr (x0))), (1, .inr (.inr (x1))), (2, .inl (x2)), (3, .inl (x3)), (4, .inl (x4)), (5, .inl (x5))], [.inl ((720 : Int32)), .inl (x5)], hp σ, 0, 0)) 2 rfl ?_
      refine T_icmp_ge 68 rfl rfl (fun _ => ?_) (fun _ => ?_)
      · refine T_loc (ls' := [(0, .inr (.inr (x0)))]) [0] rfl ?_
        exact s_X5_countOutcomes_68 x0 σ
      · refine T_go (S' := (29, [(0, .inr (.inr (x0))), (1, .inr (.inr (x1))), (2, .inl (x2)), (3, .inl (x3)), (4, .inl (x4)), (5, .inl (x5))], [.inl (x4)], hp σ, 0, 0)) 1 rfl ?_
        refine T_if_eq 68 rfl rfl (fun _ => ?_) (fun _ => ?_)
        · refine T_loc (ls' := [(0, .inr (.inr (x0)))]) [0] rfl ?_
          exact s_X5_countOutcomes_68 x0 σ
        · refine T_go (S' := (36, [(0, .inr (.inr (x0))), (1, .inr (.inr (x1))), (2, .inl (x2)), (3, .inl (x3)), (4, .inl (x4)), (5, .inl (x5))], [.inl (x3), .inl (x2), .inr (.inr (x1)), .inr (.inr (x0))], hp σ, 0, 0)) 4 rfl ?_
          refine T_cv (i := iI) (as := [.inr (.inr (x0)), .inr (.inr (x1)), .inl (x2), .inl (x3)]) (rest := []) (st := [.inl (x3), .inl (x2), .inr (.inr (x1)), .inr (.inr (x0))]) rfl rfl rfl ⟨lb rfl, lb rfl, lb rfl, lb rfl⟩ (fun _ h => Ew_le (lb rfl) (s_X5_isAllowed x0 x1 x2 x3 σ _ h)) (fun _ r1 => ?_)
          show Snd false none _ _ _ (cN iI) (39, [(0, .inr (.inr (x0))), (1, .inr (.inr (x1))), (2, .inl (x2)), (3, .inl (x3)), (4, .inl (x4)), (5, .inl (x5))], [.inl (r1.1)], hp r1.2, 0, 0)
          refine T_if_eq 55 rfl rfl (fun _ => ?_) (fun _ => ?_)
          · refine T_loc (ls' := [(0, .inr (.inr (x0))), (1, .inr (.inr (x1))), (2, .inl (x2)), (3, .inl (x3)), (5, .inl (x5))]) [0, 1, 2, 3, 5] rfl ?_
            exact (ih.2) x0 x1 x2 x3 x5 r1.2
          · refine T_go (S' := (43, [(0, .inr (.inr (x0))), (1, .inr (.inr (x1))), (2, .inl (x2)), (3, .inl (x3)), (4, .inl (x4)), (5, .inl (x5))], [.inr (.inr (x0))], hp r1.2, 0, 0)) 1 rfl ?_
            refine T_getR rfl (fun _ => ?_)
            refine T_go (S' := (49, [(0, .inr (.inr (x0))), (1, .inr (.inr (x1))), (2, .inl (x2)), (3, .inl (x3)), (4, .inl (x4)), (5, .inl (x5))], [.inl (x3), .inr (.inr (x1)), .inr (.inr (x0)), .inr (.inr ((RH x0 3)))], hp r1.2, 0, 0)) 3 rfl ?_
            refine T_cv (i := iI) (as := [.inr (.inr (x0)), .inr (.inr (x1)), .inl (x3)]) (rest := [.inr (.inr ((RH x0 3)))]) (st := [.inl (x3), .inr (.inr (x1)), .inr (.inr (x0)), .inr (.inr ((RH x0 3)))]) rfl rfl rfl ⟨lb rfl, lb rfl, lb rfl, lb rfl⟩ (fun _ h => Ew_le (lb rfl) (s_X5_outcomeOf x0 x1 x3 r1.2 _ h)) (fun _ r2 => ?_)
            show Snd false none _ _ _ (cN iI) (52, [(0, .inr (.inr (x0))), (1, .inr (.inr (x1))), (2, .inl (x2)), (3, .inl (x3)), (4, .inl (x4)), (5, .inl (x5))], [.inl (r2.1), .inr (.inr ((RH x0 3)))], hp r2.2, 0, 0)
            refine T_cv (i := iU) (as := [.inr (.inr ((RH x0 3))), .inl (r2.1)]) (rest := []) (st := [.inl (r2.1), .inr (.inr ((RH x0 3)))]) rfl rfl rfl ⟨lb rfl, lb rfl, lb rfl, lb rfl⟩ (fun _ h => Ew_le (lb rfl) (s_X6_include (RH x0 3) r2.1 r2.2 _ h)) (fun _ r3 => ?_)
            show Snd false none _ _ _ (cN iI) (55, [(0, .inr (.inr (x0))), (1, .inr (.inr (x1))), (2, .inl (x2)), (3, .inl (x3)), (4, .inl (x4)), (5, .inl (x5))], [], hp r3.2, 0, 0)
            refine T_loc (ls' := [(0, .inr (.inr (x0))), (1, .inr (.inr (x1))), (2, .inl (x2)), (3, .inl (x3)), (5, .inl (x5))]) [0, 1, 2, 3, 5] rfl ?_
            exact (ih.2) x0 x1 x2 x3 x5 r3.2
    · intro x0 x1 x2 x3 x5 σ
      unfold f_X5_countOutcomes_L19
      refine T_go (S' := (57, [(0, .inr (.inr (x0))), (1, .inr (.inr (x1))), (2, .inl (x2)), (3, .inl (x3)), (5, .inl (x5))], [.inl (x3), .inr (.inr (x0))], hp σ, 0, 0)) 2 rfl ?_
      refine T_cv (i := iI) (as := [.inr (.inr (x0)), .inl (x3)]) (rest := []) (st := [.inl (x3), .inr (.inr (x0))]) rfl rfl rfl ⟨lb rfl, lb rfl, lb rfl, lb rfl⟩ (fun _ h => Ew_le (lb rfl) (s_X5_nextOrder x0 x3 σ _ h)) (fun _ r1 => ?_)
      show Snd false none _ _ _ (cN iI) (60, [(0, .inr (.inr (x0))), (1, .inr (.inr (x1))), (2, .inl (x2)), (3, .inl (x3)), (5, .inl (x5))], [.inl (r1.1)], hp r1.2, 0, 0)
      refine T_go (S' := (19, [(5, .inl ((x5 + (1 : Int32)))), (4, .inl (r1.1)), (0, .inr (.inr (x0))), (1, .inr (.inr (x1))), (2, .inl (x2)), (3, .inl (x3))], [], hp r1.2, 0, 0)) 3 rfl ?_
      refine T_loc (ls' := [(0, .inr (.inr (x0))), (1, .inr (.inr (x1))), (2, .inl (x2)), (3, .inl (x3)), (4, .inl (r1.1)), (5, .inl ((x5 + (1 : Int32))))]) [2, 3, 4, 5, 1, 0] rfl ?_
      exact (ih.1) x0 x1 x2 x3 r1.1 (x5 + (1 : Int32)) r1.2
def f_X5_countOutcomes (x0 : Nat) (x1 : Nat) (x2 : Int32) (σ : eMem) : Option (Int32 × eMem) :=
  if (KH x0).1 = 4 then
    if (KH (RH x0 3)).1 = 5 then
      Option.bind (f_X6_forget (RH x0 3) σ) (fun r1 =>
        if (KH x0).1 = 4 then
          Option.bind (f_X5_firstOrder x0 x1 r1.2) (fun r2 =>
            f_X5_countOutcomes_L19 1000000 (.inl (x0, x1, x2, r2.1, (1 : Int32), (0 : Int32))) r2.2
            )
        else none
        )
    else none
  else none
set_option maxHeartbeats 4000000 in
set_option maxRecDepth 20000 in
theorem s_X5_countOutcomes (x0 : Nat) (x1 : Nat) (x2 : Int32) (σ : eMem) : ∀ r, f_X5_countOutcomes x0 x1 x2 σ = some r → Ew false 3 52 [.inr (.inr (x0)), .inr (.inr (x1)), .inl (x2)] (hp σ) (cN iI r) := by
  refine T_meth (md := m_X5_countOutcomes) (d0 := 2) (cv := (cN iI)) rfl (lb rfl) (lb rfl) ?_
  unfold f_X5_countOutcomes
  show Snd false none _ _ _ _ (0, [(0, .inr (.inr (x0))), (1, .inr (.inr (x1))), (2, .inl (x2))], [], hp σ, 0, 0)
  refine T_go (S' := (1, [(0, .inr (.inr (x0))), (1, .inr (.inr (x1))), (2, .inl (x2))], [.inr (.inr (x0))], hp σ, 0, 0)) 1 rfl ?_
  refine T_getR rfl (fun _ => ?_)
  refine T_cv (i := iU) (as := [.inr (.inr ((RH x0 3)))]) (rest := []) (st := [.inr (.inr ((RH x0 3)))]) rfl rfl rfl ⟨lb rfl, lb rfl, lb rfl, lb rfl⟩ (fun _ h => Ew_le (lb rfl) (s_X6_forget (RH x0 3) σ _ h)) (fun _ r1 => ?_)
  show Snd false none _ _ _ (cN iI) (7, [(0, .inr (.inr (x0))), (1, .inr (.inr (x1))), (2, .inl (x2))], [], hp r1.2, 0, 0)
  refine T_go (S' := (9, [(0, .inr (.inr (x0))), (1, .inr (.inr (x1))), (2, .inl (x2))], [.inr (.inr (x1)), .inr (.inr (x0))], hp r1.2, 0, 0)) 2 rfl ?_
  refine T_cv (i := iI) (as := [.inr (.inr (x0)), .inr (.inr (x1))]) (rest := []) (st := [.inr (.inr (x1)), .inr (.inr (x0))]) rfl rfl rfl ⟨lb rfl, lb rfl, lb rfl, lb rfl⟩ (fun _ h => Ew_le (lb rfl) (s_X5_firstOrder x0 x1 r1.2 _ h)) (fun _ r2 => ?_)
  show Snd false none _ _ _ (cN iI) (12, [(0, .inr (.inr (x0))), (1, .inr (.inr (x1))), (2, .inl (x2))], [.inl (r2.1)], hp r2.2, 0, 0)
  refine T_go (S' := (19, [(5, .inl ((0 : Int32))), (4, .inl ((1 : Int32))), (3, .inl (r2.1)), (0, .inr (.inr (x0))), (1, .inr (.inr (x1))), (2, .inl (x2))], [], hp r2.2, 0, 0)) 5 rfl ?_
  refine T_loc (ls' := [(0, .inr (.inr (x0))), (1, .inr (.inr (x1))), (2, .inl (x2)), (3, .inl (r2.1)), (4, .inl ((1 : Int32))), (5, .inl ((0 : Int32)))]) [3, 4, 5, 2, 1, 0] rfl ?_
  exact (s_X5_countOutcomes_L19 1000000).1 x0 x1 x2 r2.1 (1 : Int32) (0 : Int32) r2.2
