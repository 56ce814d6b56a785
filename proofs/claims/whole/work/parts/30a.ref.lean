/-! what the methods do -/
def f_X12_thrown (x0 : Nat) (σ : eMem) : Option (Int32 × eMem) :=
  if (KH x0).1 = 10 then
    some ((σ.1 x0 32), σ)
  else none
set_option maxHeartbeats 4000000 in
set_option maxRecDepth 20000 in
theorem s_X12_thrown (x0 : Nat) (σ : eMem) : ∀ r, f_X12_thrown x0 σ = some r → Ew false 1 131 [.inr (.inr (x0))] (hp σ) (cN iI r) := by
  refine T_meth (md := m_X12_thrown) (d0 := 0) (cv := (cN iI)) rfl (lb rfl) (lb rfl) ?_
  unfold f_X12_thrown
  show Snd false none _ _ _ _ (0, [(0, .inr (.inr (x0)))], [], hp σ, 0, 0)
  refine T_go (S' := (1, [(0, .inr (.inr (x0)))], [.inr (.inr (x0))], hp σ, 0, 0)) 1 rfl ?_
  refine T_getI rfl (fun _ => ?_)
  exact T_ret rfl
def f_X12_fails (x0 : Nat) (x1 : Int32) (σ : eMem) : Option (Int32 × eMem) :=
  if (KH x0).1 = 10 then eLet ((eup σ.1 x0 32 x1, σ.2) : eMem) (fun σ1 =>
    some ((0 : Int32), σ1)
    ) else none
set_option maxHeartbeats 4000000 in
set_option maxRecDepth 20000 in
theorem s_X12_fails (x0 : Nat) (x1 : Int32) (σ : eMem) : ∀ r, f_X12_fails x0 x1 σ = some r → Ew false 1 132 [.inr (.inr (x0)), .inl (x1)] (hp σ) (cN iI r) := by
  refine T_meth (md := m_X12_fails) (d0 := 0) (cv := (cN iI)) rfl (lb rfl) (lb rfl) ?_
  unfold f_X12_fails
  show Snd false none _ _ _ _ (0, [(0, .inr (.inr (x0))), (1, .inl (x1))], [], hp σ, 0, 0)
  refine T_go (S' := (2, [(0, .inr (.inr (x0))), (1, .inl (x1))], [.inl (x1), .inr (.inr (x0))], hp σ, 0, 0)) 2 rfl ?_
  refine T_putI rfl (fun _ => ?_)
  refine T_let (Sf := fun σ1 => (5, [(0, .inr (.inr (x0))), (1, .inl (x1))], [], hp σ1, 0, 0)) (fun σ1 => ?_)
  refine T_go (S' := (6, [(0, .inr (.inr (x0))), (1, .inl (x1))], [.inl ((0 : Int32))], hp σ1, 0, 0)) 1 rfl ?_
  exact T_ret rfl
def f_X12_asks_10 (x1 : Int32) (s0 : Nat) (s1 : Int32) (σ : eMem) : Option (Int32 × eMem) :=
  if (KH s0).1 = 10 then eLet ((eup σ.1 s0 32 s1, σ.2) : eMem) (fun σ1 =>
    if eB x1 = true then some (x1, σ1) else none
    ) else none
set_option maxHeartbeats 4000000 in
set_option maxRecDepth 20000 in
theorem s_X12_asks_10 (x1 : Int32) (s0 : Nat) (s1 : Int32) (σ : eMem) : Snd false none 0 m_X12_asks (f_X12_asks_10 x1 s0 s1 σ) (cN iI) (10, [(1, .inl (x1))], [.inl (s1), .inr (.inr (s0))], hp σ, 0, 0) := by
  unfold f_X12_asks_10
  refine T_putI rfl (fun _ => ?_)
  refine T_let (Sf := fun σ1 => (13, [(1, .inl (x1))], [], hp σ1, 0, 0)) (fun σ1 => ?_)
  refine T_go (S' := (14, [(1, .inl (x1))], [.inl (x1)], hp σ1, 0, 0)) 1 rfl ?_
  exact T_chkr rfl
def f_X12_asks (x0 : Nat) (x1 : Int32) (σ : eMem) : Option (Int32 × eMem) :=
  if x1 = (0 : Int32) then
    f_X12_asks_10 x1 x0 (1 : Int32) σ
  else
    f_X12_asks_10 x1 x0 (0 : Int32) σ
set_option maxHeartbeats 4000000 in
set_option maxRecDepth 20000 in
theorem s_X12_asks (x0 : Nat) (x1 : Int32) (σ : eMem) : ∀ r, f_X12_asks x0 x1 σ = some r → Ew false 1 133 [.inr (.inr (x0)), .inl (x1)] (hp σ) (cN iI r) := by
  refine T_meth (md := m_X12_asks) (d0 := 0) (cv := (cN iI)) rfl (lb rfl) (lb rfl) ?_
  unfold f_X12_asks
  show Snd false none _ _ _ _ (0, [(0, .inr (.inr (x0))), (1, .inl (x1))], [], hp σ, 0, 0)
  refine T_go (S' := (2, [(0, .inr (.inr (x0))), (1, .inl (x1))], [.inl (x1), .inr (.inr (x0))], hp σ, 0, 0)) 2 rfl ?_
  refine T_if_eq 9 rfl rfl (fun _ => ?_) (fun _ => ?_)
  · refine T_go (S' := (10, [(0, .inr (.inr (x0))), (1, .inl (x1))], [.inl ((1 : Int32)), .inr (.inr (x0))], hp σ, 0, 0)) 1 rfl ?_
    refine T_loc (ls' := [(1, .inl (x1))]) [1] rfl ?_
    exact s_X12_asks_10 x1 x0 (1 : Int32) σ
  · refine T_go (S' := (10, [(0, .inr (.inr (x0))), (1, .inl (x1))], [.inl ((0 : Int32)), .inr (.inr (x0))], hp σ, 0, 0)) 2 rfl ?_
    refine T_loc (ls' := [(1, .inl (x1))]) [1] rfl ?_
    exact s_X12_asks_10 x1 x0 (0 : Int32) σ
def f_X12_isCore_14 (s0 : Int32) (σ : eMem) : Option (Int32 × eMem) :=
  if eB s0 = true then some (s0, σ) else none
set_option maxHeartbeats 4000000 in
set_option maxRecDepth 20000 in
theorem s_X12_isCore_14 (s0 : Int32) (σ : eMem) : Snd false none 0 m_X12_isCore (f_X12_isCore_14 s0 σ) (cN iI) (14, [], [.inl (s0)], hp σ, 0, 0) := by
  unfold f_X12_isCore_14
  exact T_chkr rfl
def f_X12_isCore_13  (σ : eMem) : Option (Int32 × eMem) :=
  f_X12_isCore_14 (0 : Int32) σ
set_option maxHeartbeats 4000000 in
set_option maxRecDepth 20000 in
theorem s_X12_isCore_13  (σ : eMem) : Snd false none 0 m_X12_isCore (f_X12_isCore_13 σ) (cN iI) (13, [], [], hp σ, 0, 0) := by
  unfold f_X12_isCore_13
  refine T_go (S' := (14, [], [.inl ((0 : Int32))], hp σ, 0, 0)) 1 rfl ?_
  refine T_loc (ls' := []) [] rfl ?_
  exact s_X12_isCore_14 (0 : Int32) σ
def f_X12_isCore (x0 : Int32) (σ : eMem) : Option (Int32 × eMem) :=
  if x0 < (0 : Int32) then
    f_X12_isCore_13  σ
  else
    if (4 : Int32) ≤ x0 then
      f_X12_isCore_13  σ
    else
      f_X12_isCore_14 (1 : Int32) σ
set_option maxHeartbeats 4000000 in
set_option maxRecDepth 20000 in
theorem s_X12_isCore (x0 : Int32) (σ : eMem) : ∀ r, f_X12_isCore x0 σ = some r → Ew false 1 134 [.inl (x0)] (hp σ) (cN iI r) := by
  refine T_meth (md := m_X12_isCore) (d0 := 0) (cv := (cN iI)) rfl (lb rfl) (lb rfl) ?_
  unfold f_X12_isCore
  show Snd false none _ _ _ _ (0, [(0, .inl (x0))], [], hp σ, 0, 0)
  refine T_go (S' := (1, [(0, .inl (x0))], [.inl (x0)], hp σ, 0, 0)) 1 rfl ?_
  refine T_if_lt 13 rfl rfl (fun _ => ?_) (fun _ => ?_)
  · refine T_loc (ls' := []) [] rfl ?_
    exact s_X12_isCore_13  σ
  · refine T_go (S' := (6, [(0, .inl (x0))], [.inl ((4 : Int32)), .inl (x0)], hp σ, 0, 0)) 2 rfl ?_
    refine T_icmp_ge 13 rfl rfl (fun _ => ?_) (fun _ => ?_)
    · refine T_loc (ls' := []) [] rfl ?_
      exact s_X12_isCore_13  σ
    · refine T_go (S' := (14, [(0, .inl (x0))], [.inl ((1 : Int32))], hp σ, 0, 0)) 2 rfl ?_
      refine T_loc (ls' := []) [] rfl ?_
      exact s_X12_isCore_14 (1 : Int32) σ
def f_X12_isLine_15 (s0 : Int32) (σ : eMem) : Option (Int32 × eMem) :=
  if eB s0 = true then some (s0, σ) else none
set_option maxHeartbeats 4000000 in
set_option maxRecDepth 20000 in
theorem s_X12_isLine_15 (s0 : Int32) (σ : eMem) : Snd false none 0 m_X12_isLine (f_X12_isLine_15 s0 σ) (cN iI) (15, [], [.inl (s0)], hp σ, 0, 0) := by
  unfold f_X12_isLine_15
  exact T_chkr rfl
def f_X12_isLine_14  (σ : eMem) : Option (Int32 × eMem) :=
  f_X12_isLine_15 (0 : Int32) σ
set_option maxHeartbeats 4000000 in
set_option maxRecDepth 20000 in
theorem s_X12_isLine_14  (σ : eMem) : Snd false none 0 m_X12_isLine (f_X12_isLine_14 σ) (cN iI) (14, [], [], hp σ, 0, 0) := by
  unfold f_X12_isLine_14
  refine T_go (S' := (15, [], [.inl ((0 : Int32))], hp σ, 0, 0)) 1 rfl ?_
  refine T_loc (ls' := []) [] rfl ?_
  exact s_X12_isLine_15 (0 : Int32) σ
def f_X12_isLine (x0 : Int32) (σ : eMem) : Option (Int32 × eMem) :=
  if x0 < (0 : Int32) then
    f_X12_isLine_14  σ
  else
    if (16 : Int32) ≤ x0 then
      f_X12_isLine_14  σ
    else
      f_X12_isLine_15 (1 : Int32) σ
set_option maxHeartbeats 4000000 in
set_option maxRecDepth 20000 in
theorem s_X12_isLine (x0 : Int32) (σ : eMem) : ∀ r, f_X12_isLine x0 σ = some r → Ew false 1 135 [.inl (x0)] (hp σ) (cN iI r) := by
  refine T_meth (md := m_X12_isLine) (d0 := 0) (cv := (cN iI)) rfl (lb rfl) (lb rfl) ?_
  unfold f_X12_isLine
  show Snd false none _ _ _ _ (0, [(0, .inl (x0))], [], hp σ, 0, 0)
  refine T_go (S' := (1, [(0, .inl (x0))], [.inl (x0)], hp σ, 0, 0)) 1 rfl ?_
  refine T_if_lt 14 rfl rfl (fun _ => ?_) (fun _ => ?_)
  · refine T_loc (ls' := []) [] rfl ?_
    exact s_X12_isLine_14  σ
  · refine T_go (S' := (7, [(0, .inl (x0))], [.inl ((16 : Int32)), .inl (x0)], hp σ, 0, 0)) 2 rfl ?_
    refine T_icmp_ge 14 rfl rfl (fun _ => ?_) (fun _ => ?_)
    · refine T_loc (ls' := []) [] rfl ?_
      exact s_X12_isLine_14  σ
    · refine T_go (S' := (15, [(0, .inl (x0))], [.inl ((1 : Int32))], hp σ, 0, 0)) 2 rfl ?_
      refine T_loc (ls' := []) [] rfl ?_
      exact s_X12_isLine_15 (1 : Int32) σ
def f_X12_bits_4 : Nat → Int32 → Int32 → eMem → Option (Int32 × eMem)
  | 0, _, _, _ => none
  | n + 1, x1, x2, σ =>
    if x2 = (0 : Int32) then
      some (x1, σ)
    else
      eLet ((x2 &&& (x2 - (1 : Int32))) : Int32) (fun v1 =>
        f_X12_bits_4 n (x1 + (1 : Int32)) v1 σ
        )
set_option maxHeartbeats 4000000 in
set_option maxRecDepth 20000 in
theorem s_X12_bits_4 : ∀ (n : Nat) (x1 : Int32) (x2 : Int32) (σ : eMem), Snd false none 0 m_X12_bits (f_X12_bits_4 n x1 x2 σ) (cN iI) (4, [(1, .inl (x1)), (2, .inl (x2))], [], hp σ, 0, 0) := by
  intro n
  induction n with
  | zero => exact fun _ _ _ => T_none
  | succ n ih =>
    intro x1 x2 σ
    unfold f_X12_bits_4
    refine T_go (S' := (5, [(1, .inl (x1)), (2, .inl (x2))], [.inl (x2)], hp σ, 0, 0)) 1 rfl ?_
    refine T_if_eq 20 rfl rfl (fun _ => ?_) (fun _ => ?_)
    · refine T_go (S' := (21, [(1, .inl (x1)), (2, .inl (x2))], [.inl (x1)], hp σ, 0, 0)) 1 rfl ?_
      exact T_ret rfl
    · refine T_go (S' := (17, [(2, .inl ((x2 &&& (x2 - (1 : Int32))))), (1, .inl ((x1 + (1 : Int32))))], [], hp σ, 0, 0)) 7 rfl ?_
      refine T_let (Sf := fun v1 => (17, [(2, .inl (v1)), (1, .inl ((x1 + (1 : Int32))))], [], hp σ, 0, 0)) (fun v1 => ?_)
      refine T_go (S' := (4, [(2, .inl (v1)), (1, .inl ((x1 + (1 : Int32))))], [], hp σ, 0, 0)) 1 rfl ?_
      refine T_loc (ls' := [(1, .inl ((x1 + (1 : Int32)))), (2, .inl (v1))]) [1, 0] rfl ?_
      exact ih (x1 + (1 : Int32)) v1 σ
def f_X12_bits (x0 : Int32) (σ : eMem) : Option (Int32 × eMem) :=
  f_X12_bits_4 1000000 (0 : Int32) x0 σ
set_option maxHeartbeats 4000000 in
set_option maxRecDepth 20000 in
theorem s_X12_bits (x0 : Int32) (σ : eMem) : ∀ r, f_X12_bits x0 σ = some r → Ew false 1 136 [.inl (x0)] (hp σ) (cN iI r) := by
  refine T_meth (md := m_X12_bits) (d0 := 0) (cv := (cN iI)) rfl (lb rfl) (lb rfl) ?_
  unfold f_X12_bits
  show Snd false none _ _ _ _ (0, [(0, .inl (x0))], [], hp σ, 0, 0)
  refine T_go (S' := (4, [(2, .inl (x0)), (1, .inl ((0 : Int32))), (0, .inl (x0))], [], hp σ, 0, 0)) 4 rfl ?_
  refine T_loc (ls' := [(1, .inl ((0 : Int32))), (2, .inl (x0))]) [1, 0] rfl ?_
  exact s_X12_bits_4 1000000 (0 : Int32) x0 σ
def f_X12_sends_167 (s0 : Nat) (s1 : Int32) (s2 : Int32) (s3 : Int32) (σ : eMem) : Option (Unit × eMem) :=
  if (KH s0).1 = 11 ∧ eix s1 (KH s0).2 = true then eLet ((eup σ.1 s0 s1.toNatClampNeg (s2 + s3), σ.2) : eMem) (fun σ1 =>
    some ((), σ1)
    ) else none
set_option maxHeartbeats 4000000 in
set_option maxRecDepth 20000 in
theorem s_X12_sends_167 (s0 : Nat) (s1 : Int32) (s2 : Int32) (s3 : Int32) (σ : eMem) : Snd false none 0 m_X12_sends (f_X12_sends_167 s0 s1 s2 s3 σ) (cN iU) (167, [], [.inl (s3), .inl (s2), .inl (s1), .inr (.inr (s0))], hp σ, 0, 0) := by
  unfold f_X12_sends_167
  refine T_go (S' := (168, [], [.inl ((s2 + s3)), .inl (s1), .inr (.inr (s0))], hp σ, 0, 0)) 1 rfl ?_
  refine T_iast rfl (fun _ => ?_)
  refine T_let (Sf := fun σ1 => (169, [], [], hp σ1, 0, 0)) (fun σ1 => ?_)
  exact T_ret rfl
def f_X12_sends_162 (s0 : Nat) (s1 : Int32) (s2 : Int32) (σ : eMem) : Option (Unit × eMem) :=
  f_X12_sends_167 s0 s1 s2 (1 : Int32) σ
set_option maxHeartbeats 4000000 in
set_option maxRecDepth 20000 in
theorem s_X12_sends_162 (s0 : Nat) (s1 : Int32) (s2 : Int32) (σ : eMem) : Snd false none 0 m_X12_sends (f_X12_sends_162 s0 s1 s2 σ) (cN iU) (162, [], [.inl (s2), .inl (s1), .inr (.inr (s0))], hp σ, 0, 0) := by
  unfold f_X12_sends_162
  refine T_go (S' := (167, [], [.inl ((1 : Int32)), .inl (s2), .inl (s1), .inr (.inr (s0))], hp σ, 0, 0)) 2 rfl ?_
  refine T_loc (ls' := []) [] rfl ?_
  exact s_X12_sends_167 s0 s1 s2 (1 : Int32) σ
def f_X12_sends_143 (x0 : Nat) (x3 : Int32) (s0 : Nat) (s1 : Int32) (s2 : Int32) (s3 : Int32) (σ : eMem) : Option (Unit × eMem) :=
  if (KH s0).1 = 11 ∧ eix s1 (KH s0).2 = true then eLet ((eup σ.1 s0 s1.toNatClampNeg (s2 + s3), σ.2) : eMem) (fun σ1 =>
    if (KH x0).1 = 10 then
      if (KH (RH x0 31)).1 = 11 ∧ eix (5 : Int32) (KH (RH x0 31)).2 = true then
        if x3 = (3 : Int32) then
          f_X12_sends_162 (RH x0 31) (5 : Int32) (σ1.1 (RH x0 31) (5 : Int32).toNatClampNeg) σ1
        else
          if ¬ x3 = (4 : Int32) then
            f_X12_sends_167 (RH x0 31) (5 : Int32) (σ1.1 (RH x0 31) (5 : Int32).toNatClampNeg) (0 : Int32) σ1
          else
            f_X12_sends_162 (RH x0 31) (5 : Int32) (σ1.1 (RH x0 31) (5 : Int32).toNatClampNeg) σ1
      else none
    else none
    ) else none
set_option maxHeartbeats 4000000 in
set_option maxRecDepth 20000 in
theorem s_X12_sends_143 (x0 : Nat) (x3 : Int32) (s0 : Nat) (s1 : Int32) (s2 : Int32) (s3 : Int32) (σ : eMem) : Snd false none 0 m_X12_sends (f_X12_sends_143 x0 x3 s0 s1 s2 s3 σ) (cN iU) (143, [(0, .inr (.inr (x0))), (3, .inl (x3))], [.inl (s3), .inl (s2), .inl (s1), .inr (.inr (s0))], hp σ, 0, 0) := by
  unfold f_X12_sends_143
  refine T_go (S' := (144, [(0, .inr (.inr (x0))), (3, .inl (x3))], [.inl ((s2 + s3)), .inl (s1), .inr (.inr (s0))], hp σ, 0, 0)) 1 rfl ?_
  refine T_iast rfl (fun _ => ?_)
  refine T_let (Sf := fun σ1 => (145, [(0, .inr (.inr (x0))), (3, .inl (x3))], [], hp σ1, 0, 0)) (fun σ1 => ?_)
  refine T_go (S' := (146, [(0, .inr (.inr (x0))), (3, .inl (x3))], [.inr (.inr (x0))], hp σ1, 0, 0)) 1 rfl ?_
  refine T_getR rfl (fun _ => ?_)
  refine T_go (S' := (151, [(0, .inr (.inr (x0))), (3, .inl (x3))], [.inl ((5 : Int32)), .inr (.inr ((RH x0 31))), .inl ((5 : Int32)), .inr (.inr ((RH x0 31)))], hp σ1, 0, 0)) 2 rfl ?_
  refine T_iald rfl (fun _ => ?_)
  refine T_go (S' := (154, [(0, .inr (.inr (x0))), (3, .inl (x3))], [.inl ((3 : Int32)), .inl (x3), .inl ((σ1.1 (RH x0 31) (5 : Int32).toNatClampNeg)), .inl ((5 : Int32)), .inr (.inr ((RH x0 31)))], hp σ1, 0, 0)) 2 rfl ?_
  refine T_icmp_eq 162 rfl rfl (fun _ => ?_) (fun _ => ?_)
  · refine T_loc (ls' := []) [] rfl ?_
    exact s_X12_sends_162 (RH x0 31) (5 : Int32) (σ1.1 (RH x0 31) (5 : Int32).toNatClampNeg) σ1
  · refine T_go (S' := (159, [(0, .inr (.inr (x0))), (3, .inl (x3))], [.inl ((4 : Int32)), .inl (x3), .inl ((σ1.1 (RH x0 31) (5 : Int32).toNatClampNeg)), .inl ((5 : Int32)), .inr (.inr ((RH x0 31)))], hp σ1, 0, 0)) 2 rfl ?_
    refine T_icmp_ne 166 rfl rfl (fun _ => ?_) (fun _ => ?_)
    · refine T_go (S' := (167, [(0, .inr (.inr (x0))), (3, .inl (x3))], [.inl ((0 : Int32)), .inl ((σ1.1 (RH x0 31) (5 : Int32).toNatClampNeg)), .inl ((5 : Int32)), .inr (.inr ((RH x0 31)))], hp σ1, 0, 0)) 1 rfl ?_
      refine T_loc (ls' := []) [] rfl ?_
      exact s_X12_sends_167 (RH x0 31) (5 : Int32) (σ1.1 (RH x0 31) (5 : Int32).toNatClampNeg) (0 : Int32) σ1
    · refine T_loc (ls' := []) [] rfl ?_
      exact s_X12_sends_162 (RH x0 31) (5 : Int32) (σ1.1 (RH x0 31) (5 : Int32).toNatClampNeg) σ1
def f_X12_sends_124 (x0 : Nat) (x3 : Int32) (s0 : Nat) (s1 : Int32) (s2 : Int32) (s3 : Int32) (σ : eMem) : Option (Unit × eMem) :=
  if (KH s0).1 = 11 ∧ eix s1 (KH s0).2 = true then eLet ((eup σ.1 s0 s1.toNatClampNeg (s2 + s3), σ.2) : eMem) (fun σ1 =>
    if (KH x0).1 = 10 then
      if (KH (RH x0 31)).1 = 11 ∧ eix (4 : Int32) (KH (RH x0 31)).2 = true then
        if ¬ x3 = (5 : Int32) then
          f_X12_sends_143 x0 x3 (RH x0 31) (4 : Int32) (σ1.1 (RH x0 31) (4 : Int32).toNatClampNeg) (0 : Int32) σ1
        else
          f_X12_sends_143 x0 x3 (RH x0 31) (4 : Int32) (σ1.1 (RH x0 31) (4 : Int32).toNatClampNeg) (1 : Int32) σ1
      else none
    else none
    ) else none
set_option maxHeartbeats 4000000 in
set_option maxRecDepth 20000 in
theorem s_X12_sends_124 (x0 : Nat) (x3 : Int32) (s0 : Nat) (s1 : Int32) (s2 : Int32) (s3 : Int32) (σ : eMem) : Snd false none 0 m_X12_sends (f_X12_sends_124 x0 x3 s0 s1 s2 s3 σ) (cN iU) (124, [(0, .inr (.inr (x0))), (3, .inl (x3))], [.inl (s3), .inl (s2), .inl (s1), .inr (.inr (s0))], hp σ, 0, 0) := by
  unfold f_X12_sends_124
  refine T_go (S' := (125, [(0, .inr (.inr (x0))), (3, .inl (x3))], [.inl ((s2 + s3)), .inl (s1), .inr (.inr (s0))], hp σ, 0, 0)) 1 rfl ?_
  refine T_iast rfl (fun _ => ?_)
  refine T_let (Sf := fun σ1 => (126, [(0, .inr (.inr (x0))), (3, .inl (x3))], [], hp σ1, 0, 0)) (fun σ1 => ?_)
  refine T_go (S' := (127, [(0, .inr (.inr (x0))), (3, .inl (x3))], [.inr (.inr (x0))], hp σ1, 0, 0)) 1 rfl ?_
  refine T_getR rfl (fun _ => ?_)
  refine T_go (S' := (132, [(0, .inr (.inr (x0))), (3, .inl (x3))], [.inl ((4 : Int32)), .inr (.inr ((RH x0 31))), .inl ((4 : Int32)), .inr (.inr ((RH x0 31)))], hp σ1, 0, 0)) 2 rfl ?_
  refine T_iald rfl (fun _ => ?_)
  refine T_go (S' := (135, [(0, .inr (.inr (x0))), (3, .inl (x3))], [.inl ((5 : Int32)), .inl (x3), .inl ((σ1.1 (RH x0 31) (4 : Int32).toNatClampNeg)), .inl ((4 : Int32)), .inr (.inr ((RH x0 31)))], hp σ1, 0, 0)) 2 rfl ?_
  refine T_icmp_ne 142 rfl rfl (fun _ => ?_) (fun _ => ?_)
  · refine T_go (S' := (143, [(0, .inr (.inr (x0))), (3, .inl (x3))], [.inl ((0 : Int32)), .inl ((σ1.1 (RH x0 31) (4 : Int32).toNatClampNeg)), .inl ((4 : Int32)), .inr (.inr ((RH x0 31)))], hp σ1, 0, 0)) 1 rfl ?_
    refine T_loc (ls' := [(0, .inr (.inr (x0))), (3, .inl (x3))]) [0, 1] rfl ?_
    exact s_X12_sends_143 x0 x3 (RH x0 31) (4 : Int32) (σ1.1 (RH x0 31) (4 : Int32).toNatClampNeg) (0 : Int32) σ1
  · refine T_go (S' := (143, [(0, .inr (.inr (x0))), (3, .inl (x3))], [.inl ((1 : Int32)), .inl ((σ1.1 (RH x0 31) (4 : Int32).toNatClampNeg)), .inl ((4 : Int32)), .inr (.inr ((RH x0 31)))], hp σ1, 0, 0)) 2 rfl ?_
    refine T_loc (ls' := [(0, .inr (.inr (x0))), (3, .inl (x3))]) [0, 1] rfl ?_
    exact s_X12_sends_143 x0 x3 (RH x0 31) (4 : Int32) (σ1.1 (RH x0 31) (4 : Int32).toNatClampNeg) (1 : Int32) σ1
def f_X12_sends_105 (x0 : Nat) (x3 : Int32) (s0 : Nat) (s1 : Int32) (s2 : Int32) (s3 : Int32) (σ : eMem) : Option (Unit × eMem) :=
  if (KH s0).1 = 11 ∧ eix s1 (KH s0).2 = true then eLet ((eup σ.1 s0 s1.toNatClampNeg (s2 + s3), σ.2) : eMem) (fun σ1 =>
    if (KH x0).1 = 10 then
      if (KH (RH x0 31)).1 = 11 ∧ eix (3 : Int32) (KH (RH x0 31)).2 = true then
        if ¬ x3 = (2 : Int32) then
          f_X12_sends_124 x0 x3 (RH x0 31) (3 : Int32) (σ1.1 (RH x0 31) (3 : Int32).toNatClampNeg) (0 : Int32) σ1
        else
          f_X12_sends_124 x0 x3 (RH x0 31) (3 : Int32) (σ1.1 (RH x0 31) (3 : Int32).toNatClampNeg) (1 : Int32) σ1
      else none
    else none
    ) else none
set_option maxHeartbeats 4000000 in
set_option maxRecDepth 20000 in
theorem s_X12_sends_105 (x0 : Nat) (x3 : Int32) (s0 : Nat) (s1 : Int32) (s2 : Int32) (s3 : Int32) (σ : eMem) : Snd false none 0 m_X12_sends (f_X12_sends_105 x0 x3 s0 s1 s2 s3 σ) (cN iU) (105, [(0, .inr (.inr (x0))), (3, .inl (x3))], [.inl (s3), .inl (s2), .inl (s1), .inr (.inr (s0))], hp σ, 0, 0) := by
  unfold f_X12_sends_105
  refine T_go (S' := (106, [(0, .inr (.inr (x0))), (3, .inl (x3))], [.inl ((s2 + s3)), .inl (s1), .inr (.inr (s0))], hp σ, 0, 0)) 1 rfl ?_
  refine T_iast rfl (fun _ => ?_)
  refine T_let (Sf := fun σ1 => (107, [(0, .inr (.inr (x0))), (3, .inl (x3))], [], hp σ1, 0, 0)) (fun σ1 => ?_)
  refine T_go (S' := (108, [(0, .inr (.inr (x0))), (3, .inl (x3))], [.inr (.inr (x0))], hp σ1, 0, 0)) 1 rfl ?_
  refine T_getR rfl (fun _ => ?_)
  refine T_go (S' := (113, [(0, .inr (.inr (x0))), (3, .inl (x3))], [.inl ((3 : Int32)), .inr (.inr ((RH x0 31))), .inl ((3 : Int32)), .inr (.inr ((RH x0 31)))], hp σ1, 0, 0)) 2 rfl ?_
  refine T_iald rfl (fun _ => ?_)
  refine T_go (S' := (116, [(0, .inr (.inr (x0))), (3, .inl (x3))], [.inl ((2 : Int32)), .inl (x3), .inl ((σ1.1 (RH x0 31) (3 : Int32).toNatClampNeg)), .inl ((3 : Int32)), .inr (.inr ((RH x0 31)))], hp σ1, 0, 0)) 2 rfl ?_
  refine T_icmp_ne 123 rfl rfl (fun _ => ?_) (fun _ => ?_)
  · refine T_go (S' := (124, [(0, .inr (.inr (x0))), (3, .inl (x3))], [.inl ((0 : Int32)), .inl ((σ1.1 (RH x0 31) (3 : Int32).toNatClampNeg)), .inl ((3 : Int32)), .inr (.inr ((RH x0 31)))], hp σ1, 0, 0)) 1 rfl ?_
    refine T_loc (ls' := [(0, .inr (.inr (x0))), (3, .inl (x3))]) [0, 1] rfl ?_
    exact s_X12_sends_124 x0 x3 (RH x0 31) (3 : Int32) (σ1.1 (RH x0 31) (3 : Int32).toNatClampNeg) (0 : Int32) σ1
  · refine T_go (S' := (124, [(0, .inr (.inr (x0))), (3, .inl (x3))], [.inl ((1 : Int32)), .inl ((σ1.1 (RH x0 31) (3 : Int32).toNatClampNeg)), .inl ((3 : Int32)), .inr (.inr ((RH x0 31)))], hp σ1, 0, 0)) 2 rfl ?_
    refine T_loc (ls' := [(0, .inr (.inr (x0))), (3, .inl (x3))]) [0, 1] rfl ?_
    exact s_X12_sends_124 x0 x3 (RH x0 31) (3 : Int32) (σ1.1 (RH x0 31) (3 : Int32).toNatClampNeg) (1 : Int32) σ1
def f_X12_sends_86 (x0 : Nat) (x3 : Int32) (s0 : Nat) (s1 : Int32) (s2 : Int32) (s3 : Int32) (σ : eMem) : Option (Unit × eMem) :=
  if (KH s0).1 = 11 ∧ eix s1 (KH s0).2 = true then eLet ((eup σ.1 s0 s1.toNatClampNeg (s2 + s3), σ.2) : eMem) (fun σ1 =>
    if (KH x0).1 = 10 then
      if (KH (RH x0 31)).1 = 11 ∧ eix (2 : Int32) (KH (RH x0 31)).2 = true then
        if ¬ x3 = (1 : Int32) then
          f_X12_sends_105 x0 x3 (RH x0 31) (2 : Int32) (σ1.1 (RH x0 31) (2 : Int32).toNatClampNeg) (0 : Int32) σ1
        else
          f_X12_sends_105 x0 x3 (RH x0 31) (2 : Int32) (σ1.1 (RH x0 31) (2 : Int32).toNatClampNeg) (1 : Int32) σ1
      else none
    else none
    ) else none
set_option maxHeartbeats 4000000 in
set_option maxRecDepth 20000 in
theorem s_X12_sends_86 (x0 : Nat) (x3 : Int32) (s0 : Nat) (s1 : Int32) (s2 : Int32) (s3 : Int32) (σ : eMem) : Snd false none 0 m_X12_sends (f_X12_sends_86 x0 x3 s0 s1 s2 s3 σ) (cN iU) (86, [(0, .inr (.inr (x0))), (3, .inl (x3))], [.inl (s3), .inl (s2), .inl (s1), .inr (.inr (s0))], hp σ, 0, 0) := by
  unfold f_X12_sends_86
  refine T_go (S' := (87, [(0, .inr (.inr (x0))), (3, .inl (x3))], [.inl ((s2 + s3)), .inl (s1), .inr (.inr (s0))], hp σ, 0, 0)) 1 rfl ?_
  refine T_iast rfl (fun _ => ?_)
  refine T_let (Sf := fun σ1 => (88, [(0, .inr (.inr (x0))), (3, .inl (x3))], [], hp σ1, 0, 0)) (fun σ1 => ?_)
  refine T_go (S' := (89, [(0, .inr (.inr (x0))), (3, .inl (x3))], [.inr (.inr (x0))], hp σ1, 0, 0)) 1 rfl ?_
  refine T_getR rfl (fun _ => ?_)
  refine T_go (S' := (94, [(0, .inr (.inr (x0))), (3, .inl (x3))], [.inl ((2 : Int32)), .inr (.inr ((RH x0 31))), .inl ((2 : Int32)), .inr (.inr ((RH x0 31)))], hp σ1, 0, 0)) 2 rfl ?_
  refine T_iald rfl (fun _ => ?_)
  refine T_go (S' := (97, [(0, .inr (.inr (x0))), (3, .inl (x3))], [.inl ((1 : Int32)), .inl (x3), .inl ((σ1.1 (RH x0 31) (2 : Int32).toNatClampNeg)), .inl ((2 : Int32)), .inr (.inr ((RH x0 31)))], hp σ1, 0, 0)) 2 rfl ?_
  refine T_icmp_ne 104 rfl rfl (fun _ => ?_) (fun _ => ?_)
  · refine T_go (S' := (105, [(0, .inr (.inr (x0))), (3, .inl (x3))], [.inl ((0 : Int32)), .inl ((σ1.1 (RH x0 31) (2 : Int32).toNatClampNeg)), .inl ((2 : Int32)), .inr (.inr ((RH x0 31)))], hp σ1, 0, 0)) 1 rfl ?_
    refine T_loc (ls' := [(0, .inr (.inr (x0))), (3, .inl (x3))]) [0, 1] rfl ?_
    exact s_X12_sends_105 x0 x3 (RH x0 31) (2 : Int32) (σ1.1 (RH x0 31) (2 : Int32).toNatClampNeg) (0 : Int32) σ1
  · refine T_go (S' := (105, [(0, .inr (.inr (x0))), (3, .inl (x3))], [.inl ((1 : Int32)), .inl ((σ1.1 (RH x0 31) (2 : Int32).toNatClampNeg)), .inl ((2 : Int32)), .inr (.inr ((RH x0 31)))], hp σ1, 0, 0)) 2 rfl ?_
    refine T_loc (ls' := [(0, .inr (.inr (x0))), (3, .inl (x3))]) [0, 1] rfl ?_
    exact s_X12_sends_105 x0 x3 (RH x0 31) (2 : Int32) (σ1.1 (RH x0 31) (2 : Int32).toNatClampNeg) (1 : Int32) σ1
def f_X12_sends (x0 : Nat) (x1 : Int32) (x2 : Int32) (x3 : Int32) (x4 : Int32) (x5 : Int32) (x6 : Int32) (σ : eMem) : Option (Unit × eMem) :=
  eLet ((((5 : Int32) * x1) + x2) : Int32) (fun v1 =>
    if (KH x0).1 = 10 then
      if (KH x0).1 = 10 then
        if (KH (RH x0 9)).1 = 11 ∧ eix v1 (KH (RH x0 9)).2 = true then
          if (KH x0).1 = 10 then
            if (KH (RH x0 10)).1 = 11 ∧ eix v1 (KH (RH x0 10)).2 = true then
              if ¬ (128 : Int32) = 0 then
                if (KH (RH x0 11)).1 = 11 ∧ eix (((128 : Int32) * v1) + (((σ.1 (RH x0 9) v1.toNatClampNeg) + (σ.1 (RH x0 10) v1.toNatClampNeg)) - ((σ.1 (RH x0 9) v1.toNatClampNeg) + (σ.1 (RH x0 10) v1.toNatClampNeg)) / (128 : Int32) * (128 : Int32))) (KH (RH x0 11)).2 = true then eLet ((eup σ.1 (RH x0 11) (((128 : Int32) * v1) + (((σ.1 (RH x0 9) v1.toNatClampNeg) + (σ.1 (RH x0 10) v1.toNatClampNeg)) - ((σ.1 (RH x0 9) v1.toNatClampNeg) + (σ.1 (RH x0 10) v1.toNatClampNeg)) / (128 : Int32) * (128 : Int32))).toNatClampNeg (((x3 + ((16 : Int32) * x4)) + ((256 : Int32) * x5)) + ((2048 : Int32) * x6)), σ.2) : eMem) (fun σ2 =>
                  if (KH x0).1 = 10 then
                    if (KH (RH x0 10)).1 = 11 ∧ eix v1 (KH (RH x0 10)).2 = true then
                      if (KH (RH x0 10)).1 = 11 ∧ eix v1 (KH (RH x0 10)).2 = true then eLet ((eup σ2.1 (RH x0 10) v1.toNatClampNeg ((σ2.1 (RH x0 10) v1.toNatClampNeg) + (1 : Int32)), σ2.2) : eMem) (fun σ3 =>
                        if (KH x0).1 = 10 then
                          if (KH (RH x0 31)).1 = 11 ∧ eix (1 : Int32) (KH (RH x0 31)).2 = true then
                            if ¬ x3 = (0 : Int32) then
                              f_X12_sends_86 x0 x3 (RH x0 31) (1 : Int32) (σ3.1 (RH x0 31) (1 : Int32).toNatClampNeg) (0 : Int32) σ3
                            else
                              f_X12_sends_86 x0 x3 (RH x0 31) (1 : Int32) (σ3.1 (RH x0 31) (1 : Int32).toNatClampNeg) (1 : Int32) σ3
                          else none
                        else none
                        ) else none
                    else none
                  else none
                  ) else none
              else none
            else none
          else none
        else none
      else none
    else none
    )
set_option maxHeartbeats 4000000 in
set_option maxRecDepth 20000 in
theorem s_X12_sends (x0 : Nat) (x1 : Int32) (x2 : Int32) (x3 : Int32) (x4 : Int32) (x5 : Int32) (x6 : Int32) (σ : eMem) : ∀ r, f_X12_sends x0 x1 x2 x3 x4 x5 x6 σ = some r → Ew false 1 137 [.inr (.inr (x0)), .inl (x1), .inl (x2), .inl (x3), .inl (x4), .inl (x5), .inl (x6)] (hp σ) (cN iU r) := by
  refine T_meth (md := m_X12_sends) (d0 := 0) (cv := (cN iU)) rfl (lb rfl) (lb rfl) ?_
  unfold f_X12_sends
  show Snd false none _ _ _ _ (0, [(0, .inr (.inr (x0))), (1, .inl (x1)), (2, .inl (x2)), (3, .inl (x3)), (4, .inl (x4)), (5, .inl (x5)), (6, .inl (x6))], [], hp σ, 0, 0)
  refine T_go (S' := (7, [(7, .inl ((((5 : Int32) * x1) + x2))), (0, .inr (.inr (x0))), (1, .inl (x1)), (2, .inl (x2)), (3, .inl (x3)), (4, .inl (x4)), (5, .inl (x5)), (6, .inl (x6))], [], hp σ, 0, 0)) 6 rfl ?_
  refine T_let (Sf := fun v1 => (7, [(7, .inl (v1)), (0, .inr (.inr (x0))), (1, .inl (x1)), (2, .inl (x2)), (3, .inl (x3)), (4, .inl (x4)), (5, .inl (x5)), (6, .inl (x6))], [], hp σ, 0, 0)) (fun v1 => ?_)
  refine T_go (S' := (8, [(7, .inl (v1)), (0, .inr (.inr (x0))), (1, .inl (x1)), (2, .inl (x2)), (3, .inl (x3)), (4, .inl (x4)), (5, .inl (x5)), (6, .inl (x6))], [.inr (.inr (x0))], hp σ, 0, 0)) 1 rfl ?_
  refine T_getR rfl (fun _ => ?_)
  refine T_go (S' := (18, [(7, .inl (v1)), (0, .inr (.inr (x0))), (1, .inl (x1)), (2, .inl (x2)), (3, .inl (x3)), (4, .inl (x4)), (5, .inl (x5)), (6, .inl (x6))], [.inr (.inr (x0)), .inl (((128 : Int32) * v1)), .inr (.inr ((RH x0 11)))], hp σ, 0, 0)) 4 rfl ?_
  refine T_getR rfl (fun _ => ?_)
  refine T_go (S' := (23, [(7, .inl (v1)), (0, .inr (.inr (x0))), (1, .inl (x1)), (2, .inl (x2)), (3, .inl (x3)), (4, .inl (x4)), (5, .inl (x5)), (6, .inl (x6))], [.inl (v1), .inr (.inr ((RH x0 9))), .inl (((128 : Int32) * v1)), .inr (.inr ((RH x0 11)))], hp σ, 0, 0)) 1 rfl ?_
  refine T_iald rfl (fun _ => ?_)
  refine T_go (S' := (25, [(7, .inl (v1)), (0, .inr (.inr (x0))), (1, .inl (x1)), (2, .inl (x2)), (3, .inl (x3)), (4, .inl (x4)), (5, .inl (x5)), (6, .inl (x6))], [.inr (.inr (x0)), .inl ((σ.1 (RH x0 9) v1.toNatClampNeg)), .inl (((128 : Int32) * v1)), .inr (.inr ((RH x0 11)))], hp σ, 0, 0)) 1 rfl ?_
  refine T_getR rfl (fun _ => ?_)
  refine T_go (S' := (30, [(7, .inl (v1)), (0, .inr (.inr (x0))), (1, .inl (x1)), (2, .inl (x2)), (3, .inl (x3)), (4, .inl (x4)), (5, .inl (x5)), (6, .inl (x6))], [.inl (v1), .inr (.inr ((RH x0 10))), .inl ((σ.1 (RH x0 9) v1.toNatClampNeg)), .inl (((128 : Int32) * v1)), .inr (.inr ((RH x0 11)))], hp σ, 0, 0)) 1 rfl ?_
  refine T_iald rfl (fun _ => ?_)
  refine T_go (S' := (35, [(7, .inl (v1)), (0, .inr (.inr (x0))), (1, .inl (x1)), (2, .inl (x2)), (3, .inl (x3)), (4, .inl (x4)), (5, .inl (x5)), (6, .inl (x6))], [.inl ((128 : Int32)), .inl (((σ.1 (RH x0 9) v1.toNatClampNeg) + (σ.1 (RH x0 10) v1.toNatClampNeg))), .inl (((128 : Int32) * v1)), .inr (.inr ((RH x0 11)))], hp σ, 0, 0)) 2 rfl ?_
  refine T_irem rfl (fun _ => ?_)
  refine T_go (S' := (58, [(7, .inl (v1)), (0, .inr (.inr (x0))), (1, .inl (x1)), (2, .inl (x2)), (3, .inl (x3)), (4, .inl (x4)), (5, .inl (x5)), (6, .inl (x6))], [.inl ((((x3 + ((16 : Int32) * x4)) + ((256 : Int32) * x5)) + ((2048 : Int32) * x6))), .inl ((((128 : Int32) * v1) + (((σ.1 (RH x0 9) v1.toNatClampNeg) + (σ.1 (RH x0 10) v1.toNatClampNeg)) - ((σ.1 (RH x0 9) v1.toNatClampNeg) + (σ.1 (RH x0 10) v1.toNatClampNeg)) / (128 : Int32) * (128 : Int32)))), .inr (.inr ((RH x0 11)))], hp σ, 0, 0)) 14 rfl ?_
  refine T_iast rfl (fun _ => ?_)
  refine T_let (Sf := fun σ2 => (59, [(7, .inl (v1)), (0, .inr (.inr (x0))), (1, .inl (x1)), (2, .inl (x2)), (3, .inl (x3)), (4, .inl (x4)), (5, .inl (x5)), (6, .inl (x6))], [], hp σ2, 0, 0)) (fun σ2 => ?_)
  refine T_go (S' := (60, [(7, .inl (v1)), (0, .inr (.inr (x0))), (1, .inl (x1)), (2, .inl (x2)), (3, .inl (x3)), (4, .inl (x4)), (5, .inl (x5)), (6, .inl (x6))], [.inr (.inr (x0))], hp σ2, 0, 0)) 1 rfl ?_
  refine T_getR rfl (fun _ => ?_)
  refine T_go (S' := (66, [(7, .inl (v1)), (0, .inr (.inr (x0))), (1, .inl (x1)), (2, .inl (x2)), (3, .inl (x3)), (4, .inl (x4)), (5, .inl (x5)), (6, .inl (x6))], [.inl (v1), .inr (.inr ((RH x0 10))), .inl (v1), .inr (.inr ((RH x0 10)))], hp σ2, 0, 0)) 2 rfl ?_
  refine T_iald rfl (fun _ => ?_)
  refine T_go (S' := (69, [(7, .inl (v1)), (0, .inr (.inr (x0))), (1, .inl (x1)), (2, .inl (x2)), (3, .inl (x3)), (4, .inl (x4)), (5, .inl (x5)), (6, .inl (x6))], [.inl (((σ2.1 (RH x0 10) v1.toNatClampNeg) + (1 : Int32))), .inl (v1), .inr (.inr ((RH x0 10)))], hp σ2, 0, 0)) 2 rfl ?_
  refine T_iast rfl (fun _ => ?_)
  refine T_let (Sf := fun σ3 => (70, [(7, .inl (v1)), (0, .inr (.inr (x0))), (1, .inl (x1)), (2, .inl (x2)), (3, .inl (x3)), (4, .inl (x4)), (5, .inl (x5)), (6, .inl (x6))], [], hp σ3, 0, 0)) (fun σ3 => ?_)
  refine T_go (S' := (71, [(7, .inl (v1)), (0, .inr (.inr (x0))), (1, .inl (x1)), (2, .inl (x2)), (3, .inl (x3)), (4, .inl (x4)), (5, .inl (x5)), (6, .inl (x6))], [.inr (.inr (x0))], hp σ3, 0, 0)) 1 rfl ?_
  refine T_getR rfl (fun _ => ?_)
  refine T_go (S' := (76, [(7, .inl (v1)), (0, .inr (.inr (x0))), (1, .inl (x1)), (2, .inl (x2)), (3, .inl (x3)), (4, .inl (x4)), (5, .inl (x5)), (6, .inl (x6))], [.inl ((1 : Int32)), .inr (.inr ((RH x0 31))), .inl ((1 : Int32)), .inr (.inr ((RH x0 31)))], hp σ3, 0, 0)) 2 rfl ?_
  refine T_iald rfl (fun _ => ?_)
  refine T_go (S' := (78, [(7, .inl (v1)), (0, .inr (.inr (x0))), (1, .inl (x1)), (2, .inl (x2)), (3, .inl (x3)), (4, .inl (x4)), (5, .inl (x5)), (6, .inl (x6))], [.inl (x3), .inl ((σ3.1 (RH x0 31) (1 : Int32).toNatClampNeg)), .inl ((1 : Int32)), .inr (.inr ((RH x0 31)))], hp σ3, 0, 0)) 1 rfl ?_
  refine T_if_ne 85 rfl rfl (fun _ => ?_) (fun _ => ?_)
  · refine T_go (S' := (86, [(7, .inl (v1)), (0, .inr (.inr (x0))), (1, .inl (x1)), (2, .inl (x2)), (3, .inl (x3)), (4, .inl (x4)), (5, .inl (x5)), (6, .inl (x6))], [.inl ((0 : Int32)), .inl ((σ3.1 (RH x0 31) (1 : Int32).toNatClampNeg)), .inl ((1 : Int32)), .inr (.inr ((RH x0 31)))], hp σ3, 0, 0)) 1 rfl ?_
    refine T_loc (ls' := [(0, .inr (.inr (x0))), (3, .inl (x3))]) [1, 4] rfl ?_
    exact s_X12_sends_86 x0 x3 (RH x0 31) (1 : Int32) (σ3.1 (RH x0 31) (1 : Int32).toNatClampNeg) (0 : Int32) σ3
  · refine T_go (S' := (86, [(7, .inl (v1)), (0, .inr (.inr (x0))), (1, .inl (x1)), (2, .inl (x2)), (3, .inl (x3)), (4, .inl (x4)), (5, .inl (x5)), (6, .inl (x6))], [.inl ((1 : Int32)), .inl ((σ3.1 (RH x0 31) (1 : Int32).toNatClampNeg)), .inl ((1 : Int32)), .inr (.inr ((RH x0 31)))], hp σ3, 0, 0)) 2 rfl ?_
    refine T_loc (ls' := [(0, .inr (.inr (x0))), (3, .inl (x3))]) [1, 4] rfl ?_
    exact s_X12_sends_86 x0 x3 (RH x0 31) (1 : Int32) (σ3.1 (RH x0 31) (1 : Int32).toNatClampNeg) (1 : Int32) σ3
def f_X12_shares_65  (σ : eMem) : Option (Unit × eMem) :=
  some ((), σ)
set_option maxHeartbeats 4000000 in
set_option maxRecDepth 20000 in
theorem s_X12_shares_65  (σ : eMem) : Snd false none 1 m_X12_shares (f_X12_shares_65 σ) (cN iU) (65, [], [], hp σ, 0, 0) := by
  unfold f_X12_shares_65
  exact T_ret rfl
def f_X12_shares_53 (x0 : Nat) (x1 : Int32) (x2 : Int32) (σ : eMem) : Option (Unit × eMem) :=
  if (KH x0).1 = 10 then
    if (KH (RH x0 2)).1 = 11 ∧ eix x1 (KH (RH x0 2)).2 = true then
      if (KH (RH x0 2)).1 = 11 ∧ eix x1 (KH (RH x0 2)).2 = true then eLet ((eup σ.1 (RH x0 2) x1.toNatClampNeg ((σ.1 (RH x0 2) x1.toNatClampNeg) ||| ((1 : Int32) <<< (x2 &&& 31))), σ.2) : eMem) (fun σ1 =>
        f_X12_shares_65  σ1
        ) else none
    else none
  else none
set_option maxHeartbeats 4000000 in
set_option maxRecDepth 20000 in
theorem s_X12_shares_53 (x0 : Nat) (x1 : Int32) (x2 : Int32) (σ : eMem) : Snd false none 1 m_X12_shares (f_X12_shares_53 x0 x1 x2 σ) (cN iU) (53, [(0, .inr (.inr (x0))), (1, .inl (x1)), (2, .inl (x2))], [], hp σ, 0, 0) := by
  unfold f_X12_shares_53
  refine T_go (S' := (54, [(0, .inr (.inr (x0))), (1, .inl (x1)), (2, .inl (x2))], [.inr (.inr (x0))], hp σ, 0, 0)) 1 rfl ?_
  refine T_getR rfl (fun _ => ?_)
  refine T_go (S' := (59, [(0, .inr (.inr (x0))), (1, .inl (x1)), (2, .inl (x2))], [.inl (x1), .inr (.inr ((RH x0 2))), .inl (x1), .inr (.inr ((RH x0 2)))], hp σ, 0, 0)) 2 rfl ?_
  refine T_iald rfl (fun _ => ?_)
  refine T_go (S' := (64, [(0, .inr (.inr (x0))), (1, .inl (x1)), (2, .inl (x2))], [.inl (((σ.1 (RH x0 2) x1.toNatClampNeg) ||| ((1 : Int32) <<< (x2 &&& 31)))), .inl (x1), .inr (.inr ((RH x0 2)))], hp σ, 0, 0)) 4 rfl ?_
  refine T_iast rfl (fun _ => ?_)
  refine T_let (Sf := fun σ1 => (65, [(0, .inr (.inr (x0))), (1, .inl (x1)), (2, .inl (x2))], [], hp σ1, 0, 0)) (fun σ1 => ?_)
  refine T_loc (ls' := []) [] rfl ?_
  exact s_X12_shares_65  σ1
def f_X12_shares (x0 : Nat) (x1 : Int32) (x2 : Int32) (σ : eMem) : Option (Unit × eMem) :=
  if (KH x0).1 = 10 then
    if (KH (RH x0 3)).1 = 13 ∧ eix x1 (KH (RH x0 3)).2 = true then
      if ¬ (σ.1 (RH x0 3) x1.toNatClampNeg) = (0 : Int32) then
        f_X12_shares_65  σ
      else
        if (KH x0).1 = 10 then
          if (KH (RH x0 2)).1 = 11 ∧ eix x1 (KH (RH x0 2)).2 = true then
            if ¬ (((σ.1 (RH x0 2) x1.toNatClampNeg) >>> (x2 &&& 31)) &&& (1 : Int32)) = (0 : Int32) then
              f_X12_shares_65  σ
            else
              if (KH x0).1 = 10 then
                if (KH (RH x0 2)).1 = 11 ∧ eix x1 (KH (RH x0 2)).2 = true then
                  Option.bind (f_X12_bits (σ.1 (RH x0 2) x1.toNatClampNeg) σ) (fun r1 =>
                    if ¬ r1.1 = (2 : Int32) then
                      f_X12_shares_53 x0 x1 x2 r1.2
                    else
                      if (KH x0).1 = 10 then
                        if (KH (RH x0 3)).1 = 13 ∧ eix x1 (KH (RH x0 3)).2 = true ∧ eB (1 : Int32) = true then eLet ((eup r1.2.1 (RH x0 3) x1.toNatClampNeg (1 : Int32), r1.2.2) : eMem) (fun σ2 =>
                          if (KH x0).1 = 10 then
                            if (KH (RH x0 31)).1 = 11 ∧ eix (9 : Int32) (KH (RH x0 31)).2 = true then
                              if (KH (RH x0 31)).1 = 11 ∧ eix (9 : Int32) (KH (RH x0 31)).2 = true then eLet ((eup σ2.1 (RH x0 31) (9 : Int32).toNatClampNeg ((σ2.1 (RH x0 31) (9 : Int32).toNatClampNeg) + (1 : Int32)), σ2.2) : eMem) (fun σ3 =>
                                f_X12_shares_53 x0 x1 x2 σ3
                                ) else none
                            else none
                          else none
                          ) else none
                      else none
                    )
                else none
              else none
          else none
        else none
    else none
  else none
set_option maxHeartbeats 4000000 in
set_option maxRecDepth 20000 in
theorem s_X12_shares (x0 : Nat) (x1 : Int32) (x2 : Int32) (σ : eMem) : ∀ r, f_X12_shares x0 x1 x2 σ = some r → Ew false 2 138 [.inr (.inr (x0)), .inl (x1), .inl (x2)] (hp σ) (cN iU r) := by
  refine T_meth (md := m_X12_shares) (d0 := 1) (cv := (cN iU)) rfl (lb rfl) (lb rfl) ?_
  unfold f_X12_shares
  show Snd false none _ _ _ _ (0, [(0, .inr (.inr (x0))), (1, .inl (x1)), (2, .inl (x2))], [], hp σ, 0, 0)
  refine T_go (S' := (1, [(0, .inr (.inr (x0))), (1, .inl (x1)), (2, .inl (x2))], [.inr (.inr (x0))], hp σ, 0, 0)) 1 rfl ?_
  refine T_getR rfl (fun _ => ?_)
  refine T_go (S' := (5, [(0, .inr (.inr (x0))), (1, .inl (x1)), (2, .inl (x2))], [.inl (x1), .inr (.inr ((RH x0 3)))], hp σ, 0, 0)) 1 rfl ?_
  refine T_bald rfl (fun _ => ?_)
  refine T_if_ne 65 rfl rfl (fun _ => ?_) (fun _ => ?_)
  · refine T_loc (ls' := []) [] rfl ?_
    exact s_X12_shares_65  σ
  · refine T_go (S' := (10, [(0, .inr (.inr (x0))), (1, .inl (x1)), (2, .inl (x2))], [.inr (.inr (x0))], hp σ, 0, 0)) 1 rfl ?_
    refine T_getR rfl (fun _ => ?_)
    refine T_go (S' := (14, [(0, .inr (.inr (x0))), (1, .inl (x1)), (2, .inl (x2))], [.inl (x1), .inr (.inr ((RH x0 2)))], hp σ, 0, 0)) 1 rfl ?_
    refine T_iald rfl (fun _ => ?_)
    refine T_go (S' := (19, [(0, .inr (.inr (x0))), (1, .inl (x1)), (2, .inl (x2))], [.inl ((((σ.1 (RH x0 2) x1.toNatClampNeg) >>> (x2 &&& 31)) &&& (1 : Int32)))], hp σ, 0, 0)) 4 rfl ?_
    refine T_if_ne 65 rfl rfl (fun _ => ?_) (fun _ => ?_)
    · refine T_loc (ls' := []) [] rfl ?_
      exact s_X12_shares_65  σ
    · refine T_go (S' := (23, [(0, .inr (.inr (x0))), (1, .inl (x1)), (2, .inl (x2))], [.inr (.inr (x0))], hp σ, 0, 0)) 1 rfl ?_
      refine T_getR rfl (fun _ => ?_)
      refine T_go (S' := (27, [(0, .inr (.inr (x0))), (1, .inl (x1)), (2, .inl (x2))], [.inl (x1), .inr (.inr ((RH x0 2)))], hp σ, 0, 0)) 1 rfl ?_
      refine T_iald rfl (fun _ => ?_)
      refine T_cs (i := iI) (as := [.inl ((σ.1 (RH x0 2) x1.toNatClampNeg))]) (rest := []) (st := [.inl ((σ.1 (RH x0 2) x1.toNatClampNeg))]) rfl (lb rfl) rfl rfl ⟨lb rfl, lb rfl, lb rfl, lb rfl⟩ (fun _ h => Ew_le (lb rfl) (s_X12_bits (σ.1 (RH x0 2) x1.toNatClampNeg) σ _ h)) (fun r1 => ?_)
      show Snd false none _ _ _ (cN iU) (31, [(0, .inr (.inr (x0))), (1, .inl (x1)), (2, .inl (x2))], [.inl (r1.1)], hp r1.2, 0, 0)
      refine T_go (S' := (32, [(0, .inr (.inr (x0))), (1, .inl (x1)), (2, .inl (x2))], [.inl ((2 : Int32)), .inl (r1.1)], hp r1.2, 0, 0)) 1 rfl ?_
      refine T_icmp_ne 53 rfl rfl (fun _ => ?_) (fun _ => ?_)
      · refine T_loc (ls' := [(0, .inr (.inr (x0))), (1, .inl (x1)), (2, .inl (x2))]) [0, 1, 2] rfl ?_
        exact s_X12_shares_53 x0 x1 x2 r1.2
      · refine T_go (S' := (36, [(0, .inr (.inr (x0))), (1, .inl (x1)), (2, .inl (x2))], [.inr (.inr (x0))], hp r1.2, 0, 0)) 1 rfl ?_
        refine T_getR rfl (fun _ => ?_)
        refine T_go (S' := (41, [(0, .inr (.inr (x0))), (1, .inl (x1)), (2, .inl (x2))], [.inl ((1 : Int32)), .inl (x1), .inr (.inr ((RH x0 3)))], hp r1.2, 0, 0)) 2 rfl ?_
        refine T_bast rfl (fun _ => ?_)
        refine T_let (Sf := fun σ2 => (42, [(0, .inr (.inr (x0))), (1, .inl (x1)), (2, .inl (x2))], [], hp σ2, 0, 0)) (fun σ2 => ?_)
        refine T_go (S' := (43, [(0, .inr (.inr (x0))), (1, .inl (x1)), (2, .inl (x2))], [.inr (.inr (x0))], hp σ2, 0, 0)) 1 rfl ?_
        refine T_getR rfl (fun _ => ?_)
        refine T_go (S' := (49, [(0, .inr (.inr (x0))), (1, .inl (x1)), (2, .inl (x2))], [.inl ((9 : Int32)), .inr (.inr ((RH x0 31))), .inl ((9 : Int32)), .inr (.inr ((RH x0 31)))], hp σ2, 0, 0)) 2 rfl ?_
        refine T_iald rfl (fun _ => ?_)
        refine T_go (S' := (52, [(0, .inr (.inr (x0))), (1, .inl (x1)), (2, .inl (x2))], [.inl (((σ2.1 (RH x0 31) (9 : Int32).toNatClampNeg) + (1 : Int32))), .inl ((9 : Int32)), .inr (.inr ((RH x0 31)))], hp σ2, 0, 0)) 2 rfl ?_
        refine T_iast rfl (fun _ => ?_)
        refine T_let (Sf := fun σ3 => (53, [(0, .inr (.inr (x0))), (1, .inl (x1)), (2, .inl (x2))], [], hp σ3, 0, 0)) (fun σ3 => ?_)
        refine T_loc (ls' := [(0, .inr (.inr (x0))), (1, .inl (x1)), (2, .inl (x2))]) [0, 1, 2] rfl ?_
        exact s_X12_shares_53 x0 x1 x2 σ3
def f_X12_hasSharers_23 (s0 : Int32) (σ : eMem) : Option (Int32 × eMem) :=
  if eB s0 = true then some (s0, σ) else none
set_option maxHeartbeats 4000000 in
set_option maxRecDepth 20000 in
theorem s_X12_hasSharers_23 (s0 : Int32) (σ : eMem) : Snd false none 0 m_X12_hasSharers (f_X12_hasSharers_23 s0 σ) (cN iI) (23, [], [.inl (s0)], hp σ, 0, 0) := by
  unfold f_X12_hasSharers_23
  exact T_chkr rfl
def f_X12_hasSharers_18  (σ : eMem) : Option (Int32 × eMem) :=
  f_X12_hasSharers_23 (1 : Int32) σ
set_option maxHeartbeats 4000000 in
set_option maxRecDepth 20000 in
theorem s_X12_hasSharers_18  (σ : eMem) : Snd false none 0 m_X12_hasSharers (f_X12_hasSharers_18 σ) (cN iI) (18, [], [], hp σ, 0, 0) := by
  unfold f_X12_hasSharers_18
  refine T_go (S' := (23, [], [.inl ((1 : Int32))], hp σ, 0, 0)) 2 rfl ?_
  refine T_loc (ls' := []) [] rfl ?_
  exact s_X12_hasSharers_23 (1 : Int32) σ
def f_X12_hasSharers (x0 : Nat) (x1 : Int32) (σ : eMem) : Option (Int32 × eMem) :=
  if (KH x0).1 = 10 then
    if (KH (RH x0 3)).1 = 13 ∧ eix x1 (KH (RH x0 3)).2 = true then
      if ¬ (σ.1 (RH x0 3) x1.toNatClampNeg) = (0 : Int32) then
        f_X12_hasSharers_18  σ
      else
        if (KH x0).1 = 10 then
          if (KH (RH x0 2)).1 = 11 ∧ eix x1 (KH (RH x0 2)).2 = true then
            if (σ.1 (RH x0 2) x1.toNatClampNeg) = (0 : Int32) then
              f_X12_hasSharers_23 (0 : Int32) σ
            else
              f_X12_hasSharers_18  σ
          else none
        else none
    else none
  else none
set_option maxHeartbeats 4000000 in
set_option maxRecDepth 20000 in
theorem s_X12_hasSharers (x0 : Nat) (x1 : Int32) (σ : eMem) : ∀ r, f_X12_hasSharers x0 x1 σ = some r → Ew false 1 139 [.inr (.inr (x0)), .inl (x1)] (hp σ) (cN iI r) := by
  refine T_meth (md := m_X12_hasSharers) (d0 := 0) (cv := (cN iI)) rfl (lb rfl) (lb rfl) ?_
  unfold f_X12_hasSharers
  show Snd false none _ _ _ _ (0, [(0, .inr (.inr (x0))), (1, .inl (x1))], [], hp σ, 0, 0)
  refine T_go (S' := (1, [(0, .inr (.inr (x0))), (1, .inl (x1))], [.inr (.inr (x0))], hp σ, 0, 0)) 1 rfl ?_
  refine T_getR rfl (fun _ => ?_)
  refine T_go (S' := (5, [(0, .inr (.inr (x0))), (1, .inl (x1))], [.inl (x1), .inr (.inr ((RH x0 3)))], hp σ, 0, 0)) 1 rfl ?_
  refine T_bald rfl (fun _ => ?_)
  refine T_if_ne 18 rfl rfl (fun _ => ?_) (fun _ => ?_)
  · refine T_loc (ls' := []) [] rfl ?_
    exact s_X12_hasSharers_18  σ
  · refine T_go (S' := (10, [(0, .inr (.inr (x0))), (1, .inl (x1))], [.inr (.inr (x0))], hp σ, 0, 0)) 1 rfl ?_
    refine T_getR rfl (fun _ => ?_)
    refine T_go (S' := (14, [(0, .inr (.inr (x0))), (1, .inl (x1))], [.inl (x1), .inr (.inr ((RH x0 2)))], hp σ, 0, 0)) 1 rfl ?_
    refine T_iald rfl (fun _ => ?_)
    refine T_if_eq 22 rfl rfl (fun _ => ?_) (fun _ => ?_)
    · refine T_go (S' := (23, [(0, .inr (.inr (x0))), (1, .inl (x1))], [.inl ((0 : Int32))], hp σ, 0, 0)) 1 rfl ?_
      refine T_loc (ls' := []) [] rfl ?_
      exact s_X12_hasSharers_23 (0 : Int32) σ
    · refine T_loc (ls' := []) [] rfl ?_
      exact s_X12_hasSharers_18  σ
def f_X12_forgets (x0 : Nat) (x1 : Int32) (σ : eMem) : Option (Unit × eMem) :=
  if (KH x0).1 = 10 then
    if (KH (RH x0 2)).1 = 11 ∧ eix x1 (KH (RH x0 2)).2 = true then eLet ((eup σ.1 (RH x0 2) x1.toNatClampNeg (0 : Int32), σ.2) : eMem) (fun σ1 =>
      if (KH x0).1 = 10 then
        if (KH (RH x0 3)).1 = 13 ∧ eix x1 (KH (RH x0 3)).2 = true ∧ eB (0 : Int32) = true then eLet ((eup σ1.1 (RH x0 3) x1.toNatClampNeg (0 : Int32), σ1.2) : eMem) (fun σ2 =>
          some ((), σ2)
          ) else none
      else none
      ) else none
  else none
set_option maxHeartbeats 4000000 in
set_option maxRecDepth 20000 in
theorem s_X12_forgets (x0 : Nat) (x1 : Int32) (σ : eMem) : ∀ r, f_X12_forgets x0 x1 σ = some r → Ew false 1 140 [.inr (.inr (x0)), .inl (x1)] (hp σ) (cN iU r) := by
  refine T_meth (md := m_X12_forgets) (d0 := 0) (cv := (cN iU)) rfl (lb rfl) (lb rfl) ?_
  unfold f_X12_forgets
  show Snd false none _ _ _ _ (0, [(0, .inr (.inr (x0))), (1, .inl (x1))], [], hp σ, 0, 0)
  refine T_go (S' := (1, [(0, .inr (.inr (x0))), (1, .inl (x1))], [.inr (.inr (x0))], hp σ, 0, 0)) 1 rfl ?_
  refine T_getR rfl (fun _ => ?_)
  refine T_go (S' := (6, [(0, .inr (.inr (x0))), (1, .inl (x1))], [.inl ((0 : Int32)), .inl (x1), .inr (.inr ((RH x0 2)))], hp σ, 0, 0)) 2 rfl ?_
  refine T_iast rfl (fun _ => ?_)
  refine T_let (Sf := fun σ1 => (7, [(0, .inr (.inr (x0))), (1, .inl (x1))], [], hp σ1, 0, 0)) (fun σ1 => ?_)
  refine T_go (S' := (8, [(0, .inr (.inr (x0))), (1, .inl (x1))], [.inr (.inr (x0))], hp σ1, 0, 0)) 1 rfl ?_
  refine T_getR rfl (fun _ => ?_)
  refine T_go (S' := (13, [(0, .inr (.inr (x0))), (1, .inl (x1))], [.inl ((0 : Int32)), .inl (x1), .inr (.inr ((RH x0 3)))], hp σ1, 0, 0)) 2 rfl ?_
  refine T_bast rfl (fun _ => ?_)
  refine T_let (Sf := fun σ2 => (14, [(0, .inr (.inr (x0))), (1, .inl (x1))], [], hp σ2, 0, 0)) (fun σ2 => ?_)
  exact T_ret rfl
def f_X12_gives (x0 : Nat) (x1 : Int32) (x2 : Int32) (x3 : Int32) (σ : eMem) : Option (Unit × eMem) :=
  if (KH x0).1 = 10 then
    if (KH (RH x0 0)).1 = 11 ∧ eix x1 (KH (RH x0 0)).2 = true then
      if (KH x0).1 = 10 then
        Option.bind (f_X12_sends x0 (2 : Int32) x2 (6 : Int32) x1 x3 (σ.1 (RH x0 0) x1.toNatClampNeg) σ) (fun r1 =>
          some ((), r1.2)
          )
      else none
    else none
  else none
set_option maxHeartbeats 4000000 in
set_option maxRecDepth 20000 in
theorem s_X12_gives (x0 : Nat) (x1 : Int32) (x2 : Int32) (x3 : Int32) (σ : eMem) : ∀ r, f_X12_gives x0 x1 x2 x3 σ = some r → Ew false 2 141 [.inr (.inr (x0)), .inl (x1), .inl (x2), .inl (x3)] (hp σ) (cN iU r) := by
  refine T_meth (md := m_X12_gives) (d0 := 1) (cv := (cN iU)) rfl (lb rfl) (lb rfl) ?_
  unfold f_X12_gives
  show Snd false none _ _ _ _ (0, [(0, .inr (.inr (x0))), (1, .inl (x1)), (2, .inl (x2)), (3, .inl (x3))], [], hp σ, 0, 0)
  refine T_go (S' := (8, [(0, .inr (.inr (x0))), (1, .inl (x1)), (2, .inl (x2)), (3, .inl (x3))], [.inr (.inr (x0)), .inl (x3), .inl (x1), .inl ((6 : Int32)), .inl (x2), .inl ((2 : Int32)), .inr (.inr (x0))], hp σ, 0, 0)) 7 rfl ?_
  refine T_getR rfl (fun _ => ?_)
  refine T_go (S' := (12, [(0, .inr (.inr (x0))), (1, .inl (x1)), (2, .inl (x2)), (3, .inl (x3))], [.inl (x1), .inr (.inr ((RH x0 0))), .inl (x3), .inl (x1), .inl ((6 : Int32)), .inl (x2), .inl ((2 : Int32)), .inr (.inr (x0))], hp σ, 0, 0)) 1 rfl ?_
  refine T_iald rfl (fun _ => ?_)
  refine T_cv (i := iU) (as := [.inr (.inr (x0)), .inl ((2 : Int32)), .inl (x2), .inl ((6 : Int32)), .inl (x1), .inl (x3), .inl ((σ.1 (RH x0 0) x1.toNatClampNeg))]) (rest := []) (st := [.inl ((σ.1 (RH x0 0) x1.toNatClampNeg)), .inl (x3), .inl (x1), .inl ((6 : Int32)), .inl (x2), .inl ((2 : Int32)), .inr (.inr (x0))]) rfl rfl rfl ⟨lb rfl, lb rfl, lb rfl, lb rfl⟩ (fun _ h => Ew_le (lb rfl) (s_X12_sends x0 (2 : Int32) x2 (6 : Int32) x1 x3 (σ.1 (RH x0 0) x1.toNatClampNeg) σ _ h)) (fun _ r1 => ?_)
  show Snd false none _ _ _ (cN iU) (16, [(0, .inr (.inr (x0))), (1, .inl (x1)), (2, .inl (x2)), (3, .inl (x3))], [], hp r1.2, 0, 0)
  exact T_ret rfl
def f_X12_waits (x0 : Nat) (x1 : Int32) (x2 : Int32) (x3 : Int32) (x4 : Int32) (σ : eMem) : Option (Unit × eMem) :=
  if (KH x0).1 = 10 then
    if (KH (RH x0 4)).1 = 11 ∧ eix x1 (KH (RH x0 4)).2 = true then eLet ((eup σ.1 (RH x0 4) x1.toNatClampNeg x2, σ.2) : eMem) (fun σ1 =>
      if (KH x0).1 = 10 then
        if (KH (RH x0 5)).1 = 11 ∧ eix x1 (KH (RH x0 5)).2 = true then eLet ((eup σ1.1 (RH x0 5) x1.toNatClampNeg x3, σ1.2) : eMem) (fun σ2 =>
          if (KH x0).1 = 10 then
            if (KH (RH x0 6)).1 = 11 ∧ eix x1 (KH (RH x0 6)).2 = true then eLet ((eup σ2.1 (RH x0 6) x1.toNatClampNeg x4, σ2.2) : eMem) (fun σ3 =>
              some ((), σ3)
              ) else none
          else none
          ) else none
      else none
      ) else none
  else none
set_option maxHeartbeats 4000000 in
set_option maxRecDepth 20000 in
theorem s_X12_waits (x0 : Nat) (x1 : Int32) (x2 : Int32) (x3 : Int32) (x4 : Int32) (σ : eMem) : ∀ r, f_X12_waits x0 x1 x2 x3 x4 σ = some r → Ew false 1 142 [.inr (.inr (x0)), .inl (x1), .inl (x2), .inl (x3), .inl (x4)] (hp σ) (cN iU r) := by
  refine T_meth (md := m_X12_waits) (d0 := 0) (cv := (cN iU)) rfl (lb rfl) (lb rfl) ?_
  unfold f_X12_waits
  show Snd false none _ _ _ _ (0, [(0, .inr (.inr (x0))), (1, .inl (x1)), (2, .inl (x2)), (3, .inl (x3)), (4, .inl (x4))], [], hp σ, 0, 0)
  refine T_go (S' := (1, [(0, .inr (.inr (x0))), (1, .inl (x1)), (2, .inl (x2)), (3, .inl (x3)), (4, .inl (x4))], [.inr (.inr (x0))], hp σ, 0, 0)) 1 rfl ?_
  refine T_getR rfl (fun _ => ?_)
  refine T_go (S' := (6, [(0, .inr (.inr (x0))), (1, .inl (x1)), (2, .inl (x2)), (3, .inl (x3)), (4, .inl (x4))], [.inl (x2), .inl (x1), .inr (.inr ((RH x0 4)))], hp σ, 0, 0)) 2 rfl ?_
  refine T_iast rfl (fun _ => ?_)
  refine T_let (Sf := fun σ1 => (7, [(0, .inr (.inr (x0))), (1, .inl (x1)), (2, .inl (x2)), (3, .inl (x3)), (4, .inl (x4))], [], hp σ1, 0, 0)) (fun σ1 => ?_)
  refine T_go (S' := (8, [(0, .inr (.inr (x0))), (1, .inl (x1)), (2, .inl (x2)), (3, .inl (x3)), (4, .inl (x4))], [.inr (.inr (x0))], hp σ1, 0, 0)) 1 rfl ?_
  refine T_getR rfl (fun _ => ?_)
  refine T_go (S' := (13, [(0, .inr (.inr (x0))), (1, .inl (x1)), (2, .inl (x2)), (3, .inl (x3)), (4, .inl (x4))], [.inl (x3), .inl (x1), .inr (.inr ((RH x0 5)))], hp σ1, 0, 0)) 2 rfl ?_
  refine T_iast rfl (fun _ => ?_)
  refine T_let (Sf := fun σ2 => (14, [(0, .inr (.inr (x0))), (1, .inl (x1)), (2, .inl (x2)), (3, .inl (x3)), (4, .inl (x4))], [], hp σ2, 0, 0)) (fun σ2 => ?_)
  refine T_go (S' := (15, [(0, .inr (.inr (x0))), (1, .inl (x1)), (2, .inl (x2)), (3, .inl (x3)), (4, .inl (x4))], [.inr (.inr (x0))], hp σ2, 0, 0)) 1 rfl ?_
  refine T_getR rfl (fun _ => ?_)
  refine T_go (S' := (21, [(0, .inr (.inr (x0))), (1, .inl (x1)), (2, .inl (x2)), (3, .inl (x3)), (4, .inl (x4))], [.inl (x4), .inl (x1), .inr (.inr ((RH x0 6)))], hp σ2, 0, 0)) 2 rfl ?_
  refine T_iast rfl (fun _ => ?_)
  refine T_let (Sf := fun σ3 => (22, [(0, .inr (.inr (x0))), (1, .inl (x1)), (2, .inl (x2)), (3, .inl (x3)), (4, .inl (x4))], [], hp σ3, 0, 0)) (fun σ3 => ?_)
  exact T_ret rfl
def f_X12_ends_97  (σ : eMem) : Option (Unit × eMem) :=
  some ((), σ)
set_option maxHeartbeats 4000000 in
set_option maxRecDepth 20000 in
theorem s_X12_ends_97  (σ : eMem) : Snd false none 2 m_X12_ends (f_X12_ends_97 σ) (cN iU) (97, [], [], hp σ, 0, 0) := by
  unfold f_X12_ends_97
  exact T_ret rfl
def f_X12_ends (x0 : Nat) (x1 : Int32) (σ : eMem) : Option (Unit × eMem) :=
  if (KH x0).1 = 10 then
    if (KH (RH x0 6)).1 = 11 ∧ eix x1 (KH (RH x0 6)).2 = true then
      if (σ.1 (RH x0 6) x1.toNatClampNeg) ≤ (0 : Int32) then
        if (KH x0).1 = 10 then
          if (KH (RH x0 5)).1 = 11 ∧ eix x1 (KH (RH x0 5)).2 = true then
            eLet ((σ.1 (RH x0 5) x1.toNatClampNeg) : Int32) (fun v1 =>
              if (KH x0).1 = 10 then
                if (KH (RH x0 4)).1 = 11 ∧ eix x1 (KH (RH x0 4)).2 = true then
                  eLet ((σ.1 (RH x0 4) x1.toNatClampNeg) : Int32) (fun v2 =>
                    if (KH x0).1 = 10 then
                      if (KH (RH x0 4)).1 = 11 ∧ eix x1 (KH (RH x0 4)).2 = true then eLet ((eup σ.1 (RH x0 4) x1.toNatClampNeg (-1 : Int32), σ.2) : eMem) (fun σ3 =>
                        if ¬ v2 = (0 : Int32) then
                          if (KH x0).1 = 10 then
                            if (KH (RH x0 1)).1 = 11 ∧ eix x1 (KH (RH x0 1)).2 = true then eLet ((eup σ3.1 (RH x0 1) x1.toNatClampNeg v1, σ3.2) : eMem) (fun σ4 =>
                              if (KH x0).1 = 10 then
                                Option.bind (f_X12_forgets x0 x1 σ4) (fun r5 =>
                                  if (KH x0).1 = 10 then
                                    Option.bind (f_X12_gives x0 x1 v1 (3 : Int32) r5.2) (fun r6 =>
                                      f_X12_ends_97  r6.2
                                      )
                                  else none
                                  )
                              else none
                              ) else none
                          else none
                        else
                          if (KH x0).1 = 10 then
                            if (KH (RH x0 1)).1 = 11 ∧ eix x1 (KH (RH x0 1)).2 = true then
                              eLet ((σ3.1 (RH x0 1) x1.toNatClampNeg) : Int32) (fun v7 =>
                                if (KH x0).1 = 10 then
                                  if (KH (RH x0 1)).1 = 11 ∧ eix x1 (KH (RH x0 1)).2 = true then eLet ((eup σ3.1 (RH x0 1) x1.toNatClampNeg (-1 : Int32), σ3.2) : eMem) (fun σ8 =>
                                    if (KH x0).1 = 10 then
                                      Option.bind (f_X12_forgets x0 x1 σ8) (fun r9 =>
                                        if (KH x0).1 = 10 then
                                          Option.bind (f_X12_shares x0 x1 v7 r9.2) (fun r10 =>
                                            if (KH x0).1 = 10 then
                                              Option.bind (f_X12_shares x0 x1 v1 r10.2) (fun r11 =>
                                                if (KH x0).1 = 10 then
                                                  Option.bind (f_X12_gives x0 x1 v1 (1 : Int32) r11.2) (fun r12 =>
                                                    f_X12_ends_97  r12.2
                                                    )
                                                else none
                                                )
                                            else none
                                            )
                                        else none
                                        )
                                    else none
                                    ) else none
                                else none
                                )
                            else none
                          else none
                        ) else none
                    else none
                    )
                else none
              else none
              )
          else none
        else none
      else
        some ((), σ)
    else none
  else none
set_option maxHeartbeats 4000000 in
set_option maxRecDepth 20000 in
theorem s_X12_ends (x0 : Nat) (x1 : Int32) (σ : eMem) : ∀ r, f_X12_ends x0 x1 σ = some r → Ew false 3 144 [.inr (.inr (x0)), .inl (x1)] (hp σ) (cN iU r) := by
  refine T_meth (md := m_X12_ends) (d0 := 2) (cv := (cN iU)) rfl (lb rfl) (lb rfl) ?_
  unfold f_X12_ends
  show Snd false none _ _ _ _ (0, [(0, .inr (.inr (x0))), (1, .inl (x1))], [], hp σ, 0, 0)
  refine T_go (S' := (1, [(0, .inr (.inr (x0))), (1, .inl (x1))], [.inr (.inr (x0))], hp σ, 0, 0)) 1 rfl ?_
  refine T_getR rfl (fun _ => ?_)
  refine T_go (S' := (5, [(0, .inr (.inr (x0))), (1, .inl (x1))], [.inl (x1), .inr (.inr ((RH x0 6)))], hp σ, 0, 0)) 1 rfl ?_
  refine T_iald rfl (fun _ => ?_)
  refine T_if_le 10 rfl rfl (fun _ => ?_) (fun _ => ?_)
  · refine T_go (S' := (11, [(0, .inr (.inr (x0))), (1, .inl (x1))], [.inr (.inr (x0))], hp σ, 0, 0)) 1 rfl ?_
    refine T_getR rfl (fun _ => ?_)
    refine T_go (S' := (15, [(0, .inr (.inr (x0))), (1, .inl (x1))], [.inl (x1), .inr (.inr ((RH x0 5)))], hp σ, 0, 0)) 1 rfl ?_
    refine T_iald rfl (fun _ => ?_)
    refine T_go (S' := (17, [(2, .inl ((σ.1 (RH x0 5) x1.toNatClampNeg))), (0, .inr (.inr (x0))), (1, .inl (x1))], [], hp σ, 0, 0)) 1 rfl ?_
    refine T_let (Sf := fun v1 => (17, [(2, .inl (v1)), (0, .inr (.inr (x0))), (1, .inl (x1))], [], hp σ, 0, 0)) (fun v1 => ?_)
    refine T_go (S' := (18, [(2, .inl (v1)), (0, .inr (.inr (x0))), (1, .inl (x1))], [.inr (.inr (x0))], hp σ, 0, 0)) 1 rfl ?_
    refine T_getR rfl (fun _ => ?_)
    refine T_go (S' := (22, [(2, .inl (v1)), (0, .inr (.inr (x0))), (1, .inl (x1))], [.inl (x1), .inr (.inr ((RH x0 4)))], hp σ, 0, 0)) 1 rfl ?_
    refine T_iald rfl (fun _ => ?_)
    refine T_go (S' := (24, [(3, .inl ((σ.1 (RH x0 4) x1.toNatClampNeg))), (2, .inl (v1)), (0, .inr (.inr (x0))), (1, .inl (x1))], [], hp σ, 0, 0)) 1 rfl ?_
    refine T_let (Sf := fun v2 => (24, [(3, .inl (v2)), (2, .inl (v1)), (0, .inr (.inr (x0))), (1, .inl (x1))], [], hp σ, 0, 0)) (fun v2 => ?_)
    refine T_go (S' := (25, [(3, .inl (v2)), (2, .inl (v1)), (0, .inr (.inr (x0))), (1, .inl (x1))], [.inr (.inr (x0))], hp σ, 0, 0)) 1 rfl ?_
    refine T_getR rfl (fun _ => ?_)
    refine T_go (S' := (30, [(3, .inl (v2)), (2, .inl (v1)), (0, .inr (.inr (x0))), (1, .inl (x1))], [.inl ((-1 : Int32)), .inl (x1), .inr (.inr ((RH x0 4)))], hp σ, 0, 0)) 2 rfl ?_
    refine T_iast rfl (fun _ => ?_)
    refine T_let (Sf := fun σ3 => (31, [(3, .inl (v2)), (2, .inl (v1)), (0, .inr (.inr (x0))), (1, .inl (x1))], [], hp σ3, 0, 0)) (fun σ3 => ?_)
    refine T_go (S' := (32, [(3, .inl (v2)), (2, .inl (v1)), (0, .inr (.inr (x0))), (1, .inl (x1))], [.inl (v2)], hp σ3, 0, 0)) 1 rfl ?_
    refine T_if_ne 78 rfl rfl (fun _ => ?_) (fun _ => ?_)
    · refine T_go (S' := (79, [(3, .inl (v2)), (2, .inl (v1)), (0, .inr (.inr (x0))), (1, .inl (x1))], [.inr (.inr (x0))], hp σ3, 0, 0)) 1 rfl ?_
      refine T_getR rfl (fun _ => ?_)
      refine T_go (S' := (84, [(3, .inl (v2)), (2, .inl (v1)), (0, .inr (.inr (x0))), (1, .inl (x1))], [.inl (v1), .inl (x1), .inr (.inr ((RH x0 1)))], hp σ3, 0, 0)) 2 rfl ?_
      refine T_iast rfl (fun _ => ?_)
      refine T_let (Sf := fun σ4 => (85, [(3, .inl (v2)), (2, .inl (v1)), (0, .inr (.inr (x0))), (1, .inl (x1))], [], hp σ4, 0, 0)) (fun σ4 => ?_)
      refine T_go (S' := (87, [(3, .inl (v2)), (2, .inl (v1)), (0, .inr (.inr (x0))), (1, .inl (x1))], [.inl (x1), .inr (.inr (x0))], hp σ4, 0, 0)) 2 rfl ?_
      refine T_cv (i := iU) (as := [.inr (.inr (x0)), .inl (x1)]) (rest := []) (st := [.inl (x1), .inr (.inr (x0))]) rfl rfl rfl ⟨lb rfl, lb rfl, lb rfl, lb rfl⟩ (fun _ h => Ew_le (lb rfl) (s_X12_forgets x0 x1 σ4 _ h)) (fun _ r5 => ?_)
      show Snd false none _ _ _ (cN iU) (90, [(3, .inl (v2)), (2, .inl (v1)), (0, .inr (.inr (x0))), (1, .inl (x1))], [], hp r5.2, 0, 0)
      refine T_go (S' := (94, [(3, .inl (v2)), (2, .inl (v1)), (0, .inr (.inr (x0))), (1, .inl (x1))], [.inl ((3 : Int32)), .inl (v1), .inl (x1), .inr (.inr (x0))], hp r5.2, 0, 0)) 4 rfl ?_
      refine T_cv (i := iU) (as := [.inr (.inr (x0)), .inl (x1), .inl (v1), .inl ((3 : Int32))]) (rest := []) (st := [.inl ((3 : Int32)), .inl (v1), .inl (x1), .inr (.inr (x0))]) rfl rfl rfl ⟨lb rfl, lb rfl, lb rfl, lb rfl⟩ (fun _ h => Ew_le (lb rfl) (s_X12_gives x0 x1 v1 (3 : Int32) r5.2 _ h)) (fun _ r6 => ?_)
      show Snd false none _ _ _ (cN iU) (97, [(3, .inl (v2)), (2, .inl (v1)), (0, .inr (.inr (x0))), (1, .inl (x1))], [], hp r6.2, 0, 0)
      refine T_loc (ls' := []) [] rfl ?_
      exact s_X12_ends_97  r6.2
    · refine T_go (S' := (36, [(3, .inl (v2)), (2, .inl (v1)), (0, .inr (.inr (x0))), (1, .inl (x1))], [.inr (.inr (x0))], hp σ3, 0, 0)) 1 rfl ?_
      refine T_getR rfl (fun _ => ?_)
      refine T_go (S' := (40, [(3, .inl (v2)), (2, .inl (v1)), (0, .inr (.inr (x0))), (1, .inl (x1))], [.inl (x1), .inr (.inr ((RH x0 1)))], hp σ3, 0, 0)) 1 rfl ?_
      refine T_iald rfl (fun _ => ?_)
      refine T_go (S' := (43, [(4, .inl ((σ3.1 (RH x0 1) x1.toNatClampNeg))), (3, .inl (v2)), (2, .inl (v1)), (0, .inr (.inr (x0))), (1, .inl (x1))], [], hp σ3, 0, 0)) 1 rfl ?_
      refine T_let (Sf := fun v7 => (43, [(4, .inl (v7)), (3, .inl (v2)), (2, .inl (v1)), (0, .inr (.inr (x0))), (1, .inl (x1))], [], hp σ3, 0, 0)) (fun v7 => ?_)
      refine T_go (S' := (44, [(4, .inl (v7)), (3, .inl (v2)), (2, .inl (v1)), (0, .inr (.inr (x0))), (1, .inl (x1))], [.inr (.inr (x0))], hp σ3, 0, 0)) 1 rfl ?_
      refine T_getR rfl (fun _ => ?_)
      refine T_go (S' := (49, [(4, .inl (v7)), (3, .inl (v2)), (2, .inl (v1)), (0, .inr (.inr (x0))), (1, .inl (x1))], [.inl ((-1 : Int32)), .inl (x1), .inr (.inr ((RH x0 1)))], hp σ3, 0, 0)) 2 rfl ?_
      refine T_iast rfl (fun _ => ?_)
      refine T_let (Sf := fun σ8 => (50, [(4, .inl (v7)), (3, .inl (v2)), (2, .inl (v1)), (0, .inr (.inr (x0))), (1, .inl (x1))], [], hp σ8, 0, 0)) (fun σ8 => ?_)
      refine T_go (S' := (52, [(4, .inl (v7)), (3, .inl (v2)), (2, .inl (v1)), (0, .inr (.inr (x0))), (1, .inl (x1))], [.inl (x1), .inr (.inr (x0))], hp σ8, 0, 0)) 2 rfl ?_
      refine T_cv (i := iU) (as := [.inr (.inr (x0)), .inl (x1)]) (rest := []) (st := [.inl (x1), .inr (.inr (x0))]) rfl rfl rfl ⟨lb rfl, lb rfl, lb rfl, lb rfl⟩ (fun _ h => Ew_le (lb rfl) (s_X12_forgets x0 x1 σ8 _ h)) (fun _ r9 => ?_)
      show Snd false none _ _ _ (cN iU) (55, [(4, .inl (v7)), (3, .inl (v2)), (2, .inl (v1)), (0, .inr (.inr (x0))), (1, .inl (x1))], [], hp r9.2, 0, 0)
      refine T_go (S' := (59, [(4, .inl (v7)), (3, .inl (v2)), (2, .inl (v1)), (0, .inr (.inr (x0))), (1, .inl (x1))], [.inl (v7), .inl (x1), .inr (.inr (x0))], hp r9.2, 0, 0)) 3 rfl ?_
      refine T_cv (i := iU) (as := [.inr (.inr (x0)), .inl (x1), .inl (v7)]) (rest := []) (st := [.inl (v7), .inl (x1), .inr (.inr (x0))]) rfl rfl rfl ⟨lb rfl, lb rfl, lb rfl, lb rfl⟩ (fun _ h => Ew_le (lb rfl) (s_X12_shares x0 x1 v7 r9.2 _ h)) (fun _ r10 => ?_)
      show Snd false none _ _ _ (cN iU) (62, [(4, .inl (v7)), (3, .inl (v2)), (2, .inl (v1)), (0, .inr (.inr (x0))), (1, .inl (x1))], [], hp r10.2, 0, 0)
      refine T_go (S' := (65, [(4, .inl (v7)), (3, .inl (v2)), (2, .inl (v1)), (0, .inr (.inr (x0))), (1, .inl (x1))], [.inl (v1), .inl (x1), .inr (.inr (x0))], hp r10.2, 0, 0)) 3 rfl ?_
      refine T_cv (i := iU) (as := [.inr (.inr (x0)), .inl (x1), .inl (v1)]) (rest := []) (st := [.inl (v1), .inl (x1), .inr (.inr (x0))]) rfl rfl rfl ⟨lb rfl, lb rfl, lb rfl, lb rfl⟩ (fun _ h => Ew_le (lb rfl) (s_X12_shares x0 x1 v1 r10.2 _ h)) (fun _ r11 => ?_)
      show Snd false none _ _ _ (cN iU) (68, [(4, .inl (v7)), (3, .inl (v2)), (2, .inl (v1)), (0, .inr (.inr (x0))), (1, .inl (x1))], [], hp r11.2, 0, 0)
      refine T_go (S' := (72, [(4, .inl (v7)), (3, .inl (v2)), (2, .inl (v1)), (0, .inr (.inr (x0))), (1, .inl (x1))], [.inl ((1 : Int32)), .inl (v1), .inl (x1), .inr (.inr (x0))], hp r11.2, 0, 0)) 4 rfl ?_
      refine T_cv (i := iU) (as := [.inr (.inr (x0)), .inl (x1), .inl (v1), .inl ((1 : Int32))]) (rest := []) (st := [.inl ((1 : Int32)), .inl (v1), .inl (x1), .inr (.inr (x0))]) rfl rfl rfl ⟨lb rfl, lb rfl, lb rfl, lb rfl⟩ (fun _ h => Ew_le (lb rfl) (s_X12_gives x0 x1 v1 (1 : Int32) r11.2 _ h)) (fun _ r12 => ?_)
      show Snd false none _ _ _ (cN iU) (75, [(4, .inl (v7)), (3, .inl (v2)), (2, .inl (v1)), (0, .inr (.inr (x0))), (1, .inl (x1))], [], hp r12.2, 0, 0)
      refine T_go (S' := (97, [(4, .inl (v7)), (3, .inl (v2)), (2, .inl (v1)), (0, .inr (.inr (x0))), (1, .inl (x1))], [], hp r12.2, 0, 0)) 1 rfl ?_
      refine T_loc (ls' := []) [] rfl ?_
      exact s_X12_ends_97  r12.2
  · exact T_ret rfl
