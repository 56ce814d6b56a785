/-! what the methods do -/
def f_X0_latestBuffered_39  (σ : eMem) : Option (Int32 × eMem) :=
  some ((-1 : Int32), σ)
set_option maxHeartbeats 4000000 in
set_option maxRecDepth 20000 in
theorem s_X0_latestBuffered_39  (σ : eMem) : Snd false none 0 m_X0_latestBuffered (f_X0_latestBuffered_39 σ) (cN iI) (39, [], [], hp σ, 0, 0) := by
  unfold f_X0_latestBuffered_39
  refine T_go (S' := (40, [], [.inl ((-1 : Int32))], hp σ, 0, 0)) 1 rfl ?_
  exact T_ret rfl
def f_X0_latestBuffered_7 : Nat → Nat → Int32 → Int32 → eMem → Option (Int32 × eMem)
  | 0, _, _, _, _ => none
  | n + 1, x0, x1, x2, σ =>
    if x2 < (0 : Int32) then
      f_X0_latestBuffered_39  σ
    else
      if (4 : Int32) ≤ x2 then
        f_X0_latestBuffered_39  σ
      else
        if (KH x0).1 = 0 then
          if (KH (RH x0 5)).1 = 11 ∧ eix x2 (KH (RH x0 5)).2 = true then
            if ¬ (σ.1 (RH x0 5) x2.toNatClampNeg) = x1 then
              f_X0_latestBuffered_7 n x0 x1 (x2 + (-1 : Int32)) σ
            else
              if (KH x0).1 = 0 then
                if (KH (RH x0 6)).1 = 11 ∧ eix x2 (KH (RH x0 6)).2 = true then
                  some ((σ.1 (RH x0 6) x2.toNatClampNeg), σ)
                else none
              else none
          else none
        else none
set_option maxHeartbeats 4000000 in
set_option maxRecDepth 20000 in
theorem s_X0_latestBuffered_7 : ∀ (n : Nat) (x0 : Nat) (x1 : Int32) (x2 : Int32) (σ : eMem), Snd false none 0 m_X0_latestBuffered (f_X0_latestBuffered_7 n x0 x1 x2 σ) (cN iI) (7, [(0, .inr (.inr (x0))), (1, .inl (x1)), (2, .inl (x2))], [], hp σ, 0, 0) := by
  intro n
  induction n with
  | zero => exact fun _ _ _ _ => T_none
  | succ n ih =>
    intro x0 x1 x2 σ
    unfold f_X0_latestBuffered_7
    refine T_go (S' := (8, [(0, .inr (.inr (x0))), (1, .inl (x1)), (2, .inl (x2))], [.inl (x2)], hp σ, 0, 0)) 1 rfl ?_
    refine T_if_lt 39 rfl rfl (fun _ => ?_) (fun _ => ?_)
    · refine T_loc (ls' := []) [] rfl ?_
      exact s_X0_latestBuffered_39  σ
    · refine T_go (S' := (13, [(0, .inr (.inr (x0))), (1, .inl (x1)), (2, .inl (x2))], [.inl ((4 : Int32)), .inl (x2)], hp σ, 0, 0)) 2 rfl ?_
      refine T_icmp_ge 39 rfl rfl (fun _ => ?_) (fun _ => ?_)
      · refine T_loc (ls' := []) [] rfl ?_
        exact s_X0_latestBuffered_39  σ
      · refine T_go (S' := (17, [(0, .inr (.inr (x0))), (1, .inl (x1)), (2, .inl (x2))], [.inr (.inr (x0))], hp σ, 0, 0)) 1 rfl ?_
        refine T_getR rfl (fun _ => ?_)
        refine T_go (S' := (21, [(0, .inr (.inr (x0))), (1, .inl (x1)), (2, .inl (x2))], [.inl (x2), .inr (.inr ((RH x0 5)))], hp σ, 0, 0)) 1 rfl ?_
        refine T_iald rfl (fun _ => ?_)
        refine T_go (S' := (23, [(0, .inr (.inr (x0))), (1, .inl (x1)), (2, .inl (x2))], [.inl (x1), .inl ((σ.1 (RH x0 5) x2.toNatClampNeg))], hp σ, 0, 0)) 1 rfl ?_
        refine T_icmp_ne 33 rfl rfl (fun _ => ?_) (fun _ => ?_)
        · refine T_go (S' := (7, [(2, .inl ((x2 + (-1 : Int32)))), (0, .inr (.inr (x0))), (1, .inl (x1))], [], hp σ, 0, 0)) 2 rfl ?_
          refine T_loc (ls' := [(0, .inr (.inr (x0))), (1, .inl (x1)), (2, .inl ((x2 + (-1 : Int32))))]) [1, 2, 0] rfl ?_
          exact ih x0 x1 (x2 + (-1 : Int32)) σ
        · refine T_go (S' := (27, [(0, .inr (.inr (x0))), (1, .inl (x1)), (2, .inl (x2))], [.inr (.inr (x0))], hp σ, 0, 0)) 1 rfl ?_
          refine T_getR rfl (fun _ => ?_)
          refine T_go (S' := (31, [(0, .inr (.inr (x0))), (1, .inl (x1)), (2, .inl (x2))], [.inl (x2), .inr (.inr ((RH x0 6)))], hp σ, 0, 0)) 1 rfl ?_
          refine T_iald rfl (fun _ => ?_)
          exact T_ret rfl
def f_X0_latestBuffered (x0 : Nat) (x1 : Int32) (σ : eMem) : Option (Int32 × eMem) :=
  if (KH x0).1 = 0 then
    eLet (((σ.1 x0 7) - (1 : Int32)) : Int32) (fun v1 =>
      f_X0_latestBuffered_7 1000000 x0 x1 v1 σ
      )
  else none
set_option maxHeartbeats 4000000 in
set_option maxRecDepth 20000 in
theorem s_X0_latestBuffered (x0 : Nat) (x1 : Int32) (σ : eMem) : ∀ r, f_X0_latestBuffered x0 x1 σ = some r → Ew false 1 9 [.inr (.inr (x0)), .inl (x1)] (hp σ) (cN iI r) := by
  refine T_meth (md := m_X0_latestBuffered) (d0 := 0) (cv := (cN iI)) rfl (lb rfl) (lb rfl) ?_
  unfold f_X0_latestBuffered
  show Snd false none _ _ _ _ (0, [(0, .inr (.inr (x0))), (1, .inl (x1))], [], hp σ, 0, 0)
  refine T_go (S' := (1, [(0, .inr (.inr (x0))), (1, .inl (x1))], [.inr (.inr (x0))], hp σ, 0, 0)) 1 rfl ?_
  refine T_getI rfl (fun _ => ?_)
  refine T_go (S' := (7, [(2, .inl (((σ.1 x0 7) - (1 : Int32)))), (0, .inr (.inr (x0))), (1, .inl (x1))], [], hp σ, 0, 0)) 3 rfl ?_
  refine T_let (Sf := fun v1 => (7, [(2, .inl (v1)), (0, .inr (.inr (x0))), (1, .inl (x1))], [], hp σ, 0, 0)) (fun v1 => ?_)
  refine T_loc (ls' := [(0, .inr (.inr (x0))), (1, .inl (x1)), (2, .inl (v1))]) [1, 2, 0] rfl ?_
  exact s_X0_latestBuffered_7 1000000 x0 x1 v1 σ
def f_X0_placeOf_2 : Nat → Nat → Int32 → Int32 → eMem → Option (Nat × eMem)
  | 0, _, _, _, _ => none
  | n + 1, x0, x1, x2, σ =>
    if (4 : Int32) ≤ x2 then
      some ((0 : Nat), σ)
    else
      if (KH x0).1 = 0 then
        if (KH (RH x0 3)).1 = 16 ∧ eix x2 (KH (RH x0 3)).2 = true then
          if (KH (RH (RH x0 3) x2.toNatClampNeg)).1 = 6 then
            if ¬ (σ.1 (RH (RH x0 3) x2.toNatClampNeg) 0) = x1 then
              f_X0_placeOf_2 n x0 x1 (x2 + (1 : Int32)) σ
            else
              if (KH x0).1 = 0 then
                if (KH (RH x0 3)).1 = 16 ∧ eix x2 (KH (RH x0 3)).2 = true then
                  some ((RH (RH x0 3) x2.toNatClampNeg), σ)
                else none
              else none
          else none
        else none
      else none
set_option maxHeartbeats 4000000 in
set_option maxRecDepth 20000 in
theorem s_X0_placeOf_2 : ∀ (n : Nat) (x0 : Nat) (x1 : Int32) (x2 : Int32) (σ : eMem), Snd false none 0 m_X0_placeOf (f_X0_placeOf_2 n x0 x1 x2 σ) (cN iR) (2, [(0, .inr (.inr (x0))), (1, .inl (x1)), (2, .inl (x2))], [], hp σ, 0, 0) := by
  intro n
  induction n with
  | zero => exact fun _ _ _ _ => T_none
  | succ n ih =>
    intro x0 x1 x2 σ
    unfold f_X0_placeOf_2
    refine T_go (S' := (4, [(0, .inr (.inr (x0))), (1, .inl (x1)), (2, .inl (x2))], [.inl ((4 : Int32)), .inl (x2)], hp σ, 0, 0)) 2 rfl ?_
    refine T_icmp_ge 33 rfl rfl (fun _ => ?_) (fun _ => ?_)
    · refine T_go (S' := (34, [(0, .inr (.inr (x0))), (1, .inl (x1)), (2, .inl (x2))], [.inr (.inr ((0 : Nat)))], hp σ, 0, 0)) 1 rfl ?_
      exact T_ret rfl
    · refine T_go (S' := (8, [(0, .inr (.inr (x0))), (1, .inl (x1)), (2, .inl (x2))], [.inr (.inr (x0))], hp σ, 0, 0)) 1 rfl ?_
      refine T_getR rfl (fun _ => ?_)
      refine T_go (S' := (12, [(0, .inr (.inr (x0))), (1, .inl (x1)), (2, .inl (x2))], [.inl (x2), .inr (.inr ((RH x0 3)))], hp σ, 0, 0)) 1 rfl ?_
      refine T_aald rfl (fun _ => ?_)
      refine T_getI rfl (fun _ => ?_)
      refine T_go (S' := (17, [(0, .inr (.inr (x0))), (1, .inl (x1)), (2, .inl (x2))], [.inl (x1), .inl ((σ.1 (RH (RH x0 3) x2.toNatClampNeg) 0))], hp σ, 0, 0)) 1 rfl ?_
      refine T_icmp_ne 27 rfl rfl (fun _ => ?_) (fun _ => ?_)
      · refine T_go (S' := (2, [(2, .inl ((x2 + (1 : Int32)))), (0, .inr (.inr (x0))), (1, .inl (x1))], [], hp σ, 0, 0)) 2 rfl ?_
        refine T_loc (ls' := [(0, .inr (.inr (x0))), (1, .inl (x1)), (2, .inl ((x2 + (1 : Int32))))]) [1, 2, 0] rfl ?_
        exact ih x0 x1 (x2 + (1 : Int32)) σ
      · refine T_go (S' := (21, [(0, .inr (.inr (x0))), (1, .inl (x1)), (2, .inl (x2))], [.inr (.inr (x0))], hp σ, 0, 0)) 1 rfl ?_
        refine T_getR rfl (fun _ => ?_)
        refine T_go (S' := (25, [(0, .inr (.inr (x0))), (1, .inl (x1)), (2, .inl (x2))], [.inl (x2), .inr (.inr ((RH x0 3)))], hp σ, 0, 0)) 1 rfl ?_
        refine T_aald rfl (fun _ => ?_)
        exact T_ret rfl
def f_X0_placeOf (x0 : Nat) (x1 : Int32) (σ : eMem) : Option (Nat × eMem) :=
  f_X0_placeOf_2 1000000 x0 x1 (0 : Int32) σ
set_option maxHeartbeats 4000000 in
set_option maxRecDepth 20000 in
theorem s_X0_placeOf (x0 : Nat) (x1 : Int32) (σ : eMem) : ∀ r, f_X0_placeOf x0 x1 σ = some r → Ew false 1 11 [.inr (.inr (x0)), .inl (x1)] (hp σ) (cN iR r) := by
  refine T_meth (md := m_X0_placeOf) (d0 := 0) (cv := (cN iR)) rfl (lb rfl) (lb rfl) ?_
  unfold f_X0_placeOf
  show Snd false none _ _ _ _ (0, [(0, .inr (.inr (x0))), (1, .inl (x1))], [], hp σ, 0, 0)
  refine T_go (S' := (2, [(2, .inl ((0 : Int32))), (0, .inr (.inr (x0))), (1, .inl (x1))], [], hp σ, 0, 0)) 2 rfl ?_
  refine T_loc (ls' := [(0, .inr (.inr (x0))), (1, .inl (x1)), (2, .inl ((0 : Int32)))]) [1, 2, 0] rfl ?_
  exact s_X0_placeOf_2 1000000 x0 x1 (0 : Int32) σ
def f_X7_isEmpty_12 (s0 : Int32) (σ : eMem) : Option (Int32 × eMem) :=
  if eB s0 = true then some (s0, σ) else none
set_option maxHeartbeats 4000000 in
set_option maxRecDepth 20000 in
theorem s_X7_isEmpty_12 (s0 : Int32) (σ : eMem) : Snd false none 0 m_X7_isEmpty (f_X7_isEmpty_12 s0 σ) (cN iI) (12, [], [.inl (s0)], hp σ, 0, 0) := by
  unfold f_X7_isEmpty_12
  exact T_chkr rfl
def f_X7_isEmpty (x0 : Nat) (σ : eMem) : Option (Int32 × eMem) :=
  if (KH x0).1 = 6 then
    if ¬ (σ.1 x0 1) = (0 : Int32) then
      f_X7_isEmpty_12 (0 : Int32) σ
    else
      f_X7_isEmpty_12 (1 : Int32) σ
  else none
set_option maxHeartbeats 4000000 in
set_option maxRecDepth 20000 in
theorem s_X7_isEmpty (x0 : Nat) (σ : eMem) : ∀ r, f_X7_isEmpty x0 σ = some r → Ew false 1 65 [.inr (.inr (x0))] (hp σ) (cN iI r) := by
  refine T_meth (md := m_X7_isEmpty) (d0 := 0) (cv := (cN iI)) rfl (lb rfl) (lb rfl) ?_
  unfold f_X7_isEmpty
  show Snd false none _ _ _ _ (0, [(0, .inr (.inr (x0)))], [], hp σ, 0, 0)
  refine T_go (S' := (1, [(0, .inr (.inr (x0)))], [.inr (.inr (x0))], hp σ, 0, 0)) 1 rfl ?_
  refine T_getI rfl (fun _ => ?_)
  refine T_if_ne 11 rfl rfl (fun _ => ?_) (fun _ => ?_)
  · refine T_go (S' := (12, [(0, .inr (.inr (x0)))], [.inl ((0 : Int32))], hp σ, 0, 0)) 1 rfl ?_
    refine T_loc (ls' := []) [] rfl ?_
    exact s_X7_isEmpty_12 (0 : Int32) σ
  · refine T_go (S' := (12, [(0, .inr (.inr (x0)))], [.inl ((1 : Int32))], hp σ, 0, 0)) 2 rfl ?_
    refine T_loc (ls' := []) [] rfl ?_
    exact s_X7_isEmpty_12 (1 : Int32) σ
def f_X0_emptyPlace_2 : Nat → Nat → Int32 → eMem → Option (Nat × eMem)
  | 0, _, _, _ => none
  | n + 1, x0, x1, σ =>
    if (4 : Int32) ≤ x1 then
      some ((0 : Nat), σ)
    else
      if (KH x0).1 = 0 then
        if (KH (RH x0 3)).1 = 16 ∧ eix x1 (KH (RH x0 3)).2 = true then
          if (KH (RH (RH x0 3) x1.toNatClampNeg)).1 = 6 then
            Option.bind (f_X7_isEmpty (RH (RH x0 3) x1.toNatClampNeg) σ) (fun r1 =>
              if r1.1 = (0 : Int32) then
                f_X0_emptyPlace_2 n x0 (x1 + (1 : Int32)) r1.2
              else
                if (KH x0).1 = 0 then
                  if (KH (RH x0 3)).1 = 16 ∧ eix x1 (KH (RH x0 3)).2 = true then
                    some ((RH (RH x0 3) x1.toNatClampNeg), r1.2)
                  else none
                else none
              )
          else none
        else none
      else none
set_option maxHeartbeats 4000000 in
set_option maxRecDepth 20000 in
theorem s_X0_emptyPlace_2 : ∀ (n : Nat) (x0 : Nat) (x1 : Int32) (σ : eMem), Snd false none 1 m_X0_emptyPlace (f_X0_emptyPlace_2 n x0 x1 σ) (cN iR) (2, [(0, .inr (.inr (x0))), (1, .inl (x1))], [], hp σ, 0, 0) := by
  intro n
  induction n with
  | zero => exact fun _ _ _ => T_none
  | succ n ih =>
    intro x0 x1 σ
    unfold f_X0_emptyPlace_2
    refine T_go (S' := (4, [(0, .inr (.inr (x0))), (1, .inl (x1))], [.inl ((4 : Int32)), .inl (x1)], hp σ, 0, 0)) 2 rfl ?_
    refine T_icmp_ge 32 rfl rfl (fun _ => ?_) (fun _ => ?_)
    · refine T_go (S' := (33, [(0, .inr (.inr (x0))), (1, .inl (x1))], [.inr (.inr ((0 : Nat)))], hp σ, 0, 0)) 1 rfl ?_
      exact T_ret rfl
    · refine T_go (S' := (8, [(0, .inr (.inr (x0))), (1, .inl (x1))], [.inr (.inr (x0))], hp σ, 0, 0)) 1 rfl ?_
      refine T_getR rfl (fun _ => ?_)
      refine T_go (S' := (12, [(0, .inr (.inr (x0))), (1, .inl (x1))], [.inl (x1), .inr (.inr ((RH x0 3)))], hp σ, 0, 0)) 1 rfl ?_
      refine T_aald rfl (fun _ => ?_)
      refine T_cv (i := iI) (as := [.inr (.inr ((RH (RH x0 3) x1.toNatClampNeg)))]) (rest := []) (st := [.inr (.inr ((RH (RH x0 3) x1.toNatClampNeg)))]) rfl rfl rfl ⟨lb rfl, lb rfl, lb rfl, lb rfl⟩ (fun _ h => Ew_le (lb rfl) (s_X7_isEmpty (RH (RH x0 3) x1.toNatClampNeg) σ _ h)) (fun _ r1 => ?_)
      show Snd false none _ _ _ (cN iR) (16, [(0, .inr (.inr (x0))), (1, .inl (x1))], [.inl (r1.1)], hp r1.2, 0, 0)
      refine T_if_eq 26 rfl rfl (fun _ => ?_) (fun _ => ?_)
      · refine T_go (S' := (2, [(1, .inl ((x1 + (1 : Int32)))), (0, .inr (.inr (x0)))], [], hp r1.2, 0, 0)) 2 rfl ?_
        refine T_loc (ls' := [(0, .inr (.inr (x0))), (1, .inl ((x1 + (1 : Int32))))]) [1, 0] rfl ?_
        exact ih x0 (x1 + (1 : Int32)) r1.2
      · refine T_go (S' := (20, [(0, .inr (.inr (x0))), (1, .inl (x1))], [.inr (.inr (x0))], hp r1.2, 0, 0)) 1 rfl ?_
        refine T_getR rfl (fun _ => ?_)
        refine T_go (S' := (24, [(0, .inr (.inr (x0))), (1, .inl (x1))], [.inl (x1), .inr (.inr ((RH x0 3)))], hp r1.2, 0, 0)) 1 rfl ?_
        refine T_aald rfl (fun _ => ?_)
        exact T_ret rfl
def f_X0_emptyPlace (x0 : Nat) (σ : eMem) : Option (Nat × eMem) :=
  f_X0_emptyPlace_2 1000000 x0 (0 : Int32) σ
set_option maxHeartbeats 4000000 in
set_option maxRecDepth 20000 in
theorem s_X0_emptyPlace (x0 : Nat) (σ : eMem) : ∀ r, f_X0_emptyPlace x0 σ = some r → Ew false 2 12 [.inr (.inr (x0))] (hp σ) (cN iR r) := by
  refine T_meth (md := m_X0_emptyPlace) (d0 := 1) (cv := (cN iR)) rfl (lb rfl) (lb rfl) ?_
  unfold f_X0_emptyPlace
  show Snd false none _ _ _ _ (0, [(0, .inr (.inr (x0)))], [], hp σ, 0, 0)
  refine T_go (S' := (2, [(1, .inl ((0 : Int32))), (0, .inr (.inr (x0)))], [], hp σ, 0, 0)) 2 rfl ?_
  refine T_loc (ls' := [(0, .inr (.inr (x0))), (1, .inl ((0 : Int32)))]) [1, 0] rfl ?_
  exact s_X0_emptyPlace_2 1000000 x0 (0 : Int32) σ
def f_X7_mayBeWritten_21 (s0 : Int32) (σ : eMem) : Option (Int32 × eMem) :=
  if eB s0 = true then some (s0, σ) else none
set_option maxHeartbeats 4000000 in
set_option maxRecDepth 20000 in
theorem s_X7_mayBeWritten_21 (s0 : Int32) (σ : eMem) : Snd false none 0 m_X7_mayBeWritten (f_X7_mayBeWritten_21 s0 σ) (cN iI) (21, [], [.inl (s0)], hp σ, 0, 0) := by
  unfold f_X7_mayBeWritten_21
  exact T_chkr rfl
def f_X7_mayBeWritten_16  (σ : eMem) : Option (Int32 × eMem) :=
  f_X7_mayBeWritten_21 (1 : Int32) σ
set_option maxHeartbeats 4000000 in
set_option maxRecDepth 20000 in
theorem s_X7_mayBeWritten_16  (σ : eMem) : Snd false none 0 m_X7_mayBeWritten (f_X7_mayBeWritten_16 σ) (cN iI) (16, [], [], hp σ, 0, 0) := by
  unfold f_X7_mayBeWritten_16
  refine T_go (S' := (21, [], [.inl ((1 : Int32))], hp σ, 0, 0)) 2 rfl ?_
  refine T_loc (ls' := []) [] rfl ?_
  exact s_X7_mayBeWritten_21 (1 : Int32) σ
def f_X7_mayBeWritten (x0 : Nat) (σ : eMem) : Option (Int32 × eMem) :=
  if (KH x0).1 = 6 then
    if (σ.1 x0 1) = (2 : Int32) then
      f_X7_mayBeWritten_16  σ
    else
      if (KH x0).1 = 6 then
        if ¬ (σ.1 x0 1) = (3 : Int32) then
          f_X7_mayBeWritten_21 (0 : Int32) σ
        else
          f_X7_mayBeWritten_16  σ
      else none
  else none
set_option maxHeartbeats 4000000 in
set_option maxRecDepth 20000 in
theorem s_X7_mayBeWritten (x0 : Nat) (σ : eMem) : ∀ r, f_X7_mayBeWritten x0 σ = some r → Ew false 1 68 [.inr (.inr (x0))] (hp σ) (cN iI r) := by
  refine T_meth (md := m_X7_mayBeWritten) (d0 := 0) (cv := (cN iI)) rfl (lb rfl) (lb rfl) ?_
  unfold f_X7_mayBeWritten
  show Snd false none _ _ _ _ (0, [(0, .inr (.inr (x0)))], [], hp σ, 0, 0)
  refine T_go (S' := (1, [(0, .inr (.inr (x0)))], [.inr (.inr (x0))], hp σ, 0, 0)) 1 rfl ?_
  refine T_getI rfl (fun _ => ?_)
  refine T_go (S' := (5, [(0, .inr (.inr (x0)))], [.inl ((2 : Int32)), .inl ((σ.1 x0 1))], hp σ, 0, 0)) 1 rfl ?_
  refine T_icmp_eq 16 rfl rfl (fun _ => ?_) (fun _ => ?_)
  · refine T_loc (ls' := []) [] rfl ?_
    exact s_X7_mayBeWritten_16  σ
  · refine T_go (S' := (9, [(0, .inr (.inr (x0)))], [.inr (.inr (x0))], hp σ, 0, 0)) 1 rfl ?_
    refine T_getI rfl (fun _ => ?_)
    refine T_go (S' := (13, [(0, .inr (.inr (x0)))], [.inl ((3 : Int32)), .inl ((σ.1 x0 1))], hp σ, 0, 0)) 1 rfl ?_
    refine T_icmp_ne 20 rfl rfl (fun _ => ?_) (fun _ => ?_)
    · refine T_go (S' := (21, [(0, .inr (.inr (x0)))], [.inl ((0 : Int32))], hp σ, 0, 0)) 1 rfl ?_
      refine T_loc (ls' := []) [] rfl ?_
      exact s_X7_mayBeWritten_21 (0 : Int32) σ
    · refine T_loc (ls' := []) [] rfl ?_
      exact s_X7_mayBeWritten_16  σ
def f_X7_hasValue_20 (s0 : Int32) (σ : eMem) : Option (Int32 × eMem) :=
  if eB s0 = true then some (s0, σ) else none
set_option maxHeartbeats 4000000 in
set_option maxRecDepth 20000 in
theorem s_X7_hasValue_20 (s0 : Int32) (σ : eMem) : Snd false none 1 m_X7_hasValue (f_X7_hasValue_20 s0 σ) (cN iI) (20, [], [.inl (s0)], hp σ, 0, 0) := by
  unfold f_X7_hasValue_20
  exact T_chkr rfl
def f_X7_hasValue_15  (σ : eMem) : Option (Int32 × eMem) :=
  f_X7_hasValue_20 (1 : Int32) σ
set_option maxHeartbeats 4000000 in
set_option maxRecDepth 20000 in
theorem s_X7_hasValue_15  (σ : eMem) : Snd false none 1 m_X7_hasValue (f_X7_hasValue_15 σ) (cN iI) (15, [], [], hp σ, 0, 0) := by
  unfold f_X7_hasValue_15
  refine T_go (S' := (20, [], [.inl ((1 : Int32))], hp σ, 0, 0)) 2 rfl ?_
  refine T_loc (ls' := []) [] rfl ?_
  exact s_X7_hasValue_20 (1 : Int32) σ
def f_X7_hasValue (x0 : Nat) (σ : eMem) : Option (Int32 × eMem) :=
  if (KH x0).1 = 6 then
    if (σ.1 x0 1) = (1 : Int32) then
      f_X7_hasValue_15  σ
    else
      if (KH x0).1 = 6 then
        Option.bind (f_X7_mayBeWritten x0 σ) (fun r1 =>
          if r1.1 = (0 : Int32) then
            f_X7_hasValue_20 (0 : Int32) r1.2
          else
            f_X7_hasValue_15  r1.2
          )
      else none
  else none
set_option maxHeartbeats 4000000 in
set_option maxRecDepth 20000 in
theorem s_X7_hasValue (x0 : Nat) (σ : eMem) : ∀ r, f_X7_hasValue x0 σ = some r → Ew false 2 67 [.inr (.inr (x0))] (hp σ) (cN iI r) := by
  refine T_meth (md := m_X7_hasValue) (d0 := 1) (cv := (cN iI)) rfl (lb rfl) (lb rfl) ?_
  unfold f_X7_hasValue
  show Snd false none _ _ _ _ (0, [(0, .inr (.inr (x0)))], [], hp σ, 0, 0)
  refine T_go (S' := (1, [(0, .inr (.inr (x0)))], [.inr (.inr (x0))], hp σ, 0, 0)) 1 rfl ?_
  refine T_getI rfl (fun _ => ?_)
  refine T_go (S' := (5, [(0, .inr (.inr (x0)))], [.inl ((1 : Int32)), .inl ((σ.1 x0 1))], hp σ, 0, 0)) 1 rfl ?_
  refine T_icmp_eq 15 rfl rfl (fun _ => ?_) (fun _ => ?_)
  · refine T_loc (ls' := []) [] rfl ?_
    exact s_X7_hasValue_15  σ
  · refine T_go (S' := (9, [(0, .inr (.inr (x0)))], [.inr (.inr (x0))], hp σ, 0, 0)) 1 rfl ?_
    refine T_cv (i := iI) (as := [.inr (.inr (x0))]) (rest := []) (st := [.inr (.inr (x0))]) rfl rfl rfl ⟨lb rfl, lb rfl, lb rfl, lb rfl⟩ (fun _ h => Ew_le (lb rfl) (s_X7_mayBeWritten x0 σ _ h)) (fun _ r1 => ?_)
    show Snd false none _ _ _ (cN iI) (12, [(0, .inr (.inr (x0)))], [.inl (r1.1)], hp r1.2, 0, 0)
    refine T_if_eq 19 rfl rfl (fun _ => ?_) (fun _ => ?_)
    · refine T_go (S' := (20, [(0, .inr (.inr (x0)))], [.inl ((0 : Int32))], hp r1.2, 0, 0)) 1 rfl ?_
      refine T_loc (ls' := []) [] rfl ?_
      exact s_X7_hasValue_20 (0 : Int32) r1.2
    · refine T_loc (ls' := []) [] rfl ?_
      exact s_X7_hasValue_15  r1.2
def f_X10_has_21 (s0 : Int32) (σ : eMem) : Option (Int32 × eMem) :=
  if eB s0 = true then some (s0, σ) else none
set_option maxHeartbeats 4000000 in
set_option maxRecDepth 20000 in
theorem s_X10_has_21 (s0 : Int32) (σ : eMem) : Snd false none 0 m_X10_has (f_X10_has_21 s0 σ) (cN iI) (21, [], [.inl (s0)], hp σ, 0, 0) := by
  unfold f_X10_has_21
  exact T_chkr rfl
def f_X10_has_20  (σ : eMem) : Option (Int32 × eMem) :=
  f_X10_has_21 (0 : Int32) σ
set_option maxHeartbeats 4000000 in
set_option maxRecDepth 20000 in
theorem s_X10_has_20  (σ : eMem) : Snd false none 0 m_X10_has (f_X10_has_20 σ) (cN iI) (20, [], [], hp σ, 0, 0) := by
  unfold f_X10_has_20
  refine T_go (S' := (21, [], [.inl ((0 : Int32))], hp σ, 0, 0)) 1 rfl ?_
  refine T_loc (ls' := []) [] rfl ?_
  exact s_X10_has_21 (0 : Int32) σ
def f_X10_has (x0 : Nat) (x1 : Int32) (σ : eMem) : Option (Int32 × eMem) :=
  if (KH x0).1 = 8 then
    if (σ.1 x0 0) = (0 : Int32) then
      f_X10_has_20  σ
    else
      if (KH x0).1 = 8 then
        if (KH (RH x0 5)).1 = 13 ∧ eix x1 (KH (RH x0 5)).2 = true then
          if (σ.1 (RH x0 5) x1.toNatClampNeg) = (0 : Int32) then
            f_X10_has_20  σ
          else
            f_X10_has_21 (1 : Int32) σ
        else none
      else none
  else none
set_option maxHeartbeats 4000000 in
set_option maxRecDepth 20000 in
theorem s_X10_has (x0 : Nat) (x1 : Int32) (σ : eMem) : ∀ r, f_X10_has x0 x1 σ = some r → Ew false 1 91 [.inr (.inr (x0)), .inl (x1)] (hp σ) (cN iI r) := by
  refine T_meth (md := m_X10_has) (d0 := 0) (cv := (cN iI)) rfl (lb rfl) (lb rfl) ?_
  unfold f_X10_has
  show Snd false none _ _ _ _ (0, [(0, .inr (.inr (x0))), (1, .inl (x1))], [], hp σ, 0, 0)
  refine T_go (S' := (1, [(0, .inr (.inr (x0))), (1, .inl (x1))], [.inr (.inr (x0))], hp σ, 0, 0)) 1 rfl ?_
  refine T_getI rfl (fun _ => ?_)
  refine T_if_eq 20 rfl rfl (fun _ => ?_) (fun _ => ?_)
  · refine T_loc (ls' := []) [] rfl ?_
    exact s_X10_has_20  σ
  · refine T_go (S' := (8, [(0, .inr (.inr (x0))), (1, .inl (x1))], [.inr (.inr (x0))], hp σ, 0, 0)) 1 rfl ?_
    refine T_getR rfl (fun _ => ?_)
    refine T_go (S' := (12, [(0, .inr (.inr (x0))), (1, .inl (x1))], [.inl (x1), .inr (.inr ((RH x0 5)))], hp σ, 0, 0)) 1 rfl ?_
    refine T_bald rfl (fun _ => ?_)
    refine T_if_eq 20 rfl rfl (fun _ => ?_) (fun _ => ?_)
    · refine T_loc (ls' := []) [] rfl ?_
      exact s_X10_has_20  σ
    · refine T_go (S' := (21, [(0, .inr (.inr (x0))), (1, .inl (x1))], [.inl ((1 : Int32))], hp σ, 0, 0)) 2 rfl ?_
      refine T_loc (ls' := []) [] rfl ?_
      exact s_X10_has_21 (1 : Int32) σ
def f_X0_longestUnused_L4 : Nat → (Nat × Nat × Int32 ⊕ (Nat × Nat × Int32 × Nat ⊕ (Nat × Nat × Int32 × Nat × Int32 ⊕ (Nat × Int32 × Nat ⊕ (Nat × Nat × Int32))))) → eMem → Option (Nat × eMem)
  | 0, _, _ => none
  | n + 1, .inl (x0, x1, x2), σ =>
    if (4 : Int32) ≤ x2 then
      some (x1, σ)
    else
      if (KH x0).1 = 0 then
        if (KH (RH x0 3)).1 = 16 ∧ eix x2 (KH (RH x0 3)).2 = true then
          eLet ((RH (RH x0 3) x2.toNatClampNeg) : Nat) (fun v1 =>
            if (KH v1).1 = 6 then
              Option.bind (f_X7_hasValue v1 σ) (fun r2 =>
                if r2.1 = (0 : Int32) then
                  f_X0_longestUnused_L4 n (.inr (.inl (x0, x1, x2, v1))) r2.2
                else
                  if (KH x0).1 = 0 then
                    if (KH v1).1 = 6 then
                      if (KH (RH x0 8)).1 = 8 then
                        Option.bind (f_X10_has (RH x0 8) (r2.2.1 v1 0) r2.2) (fun r3 =>
                          if ¬ r3.1 = (0 : Int32) then
                            f_X0_longestUnused_L4 n (.inr (.inl (x0, x1, x2, v1))) r3.2
                          else
                            f_X0_longestUnused_L4 n (.inr (.inr (.inl (x0, x1, x2, v1, (1 : Int32))))) r3.2
                          )
                      else none
                    else none
                  else none
                )
            else none
            )
        else none
      else none
  | n + 1, .inr (.inl (x0, x1, x2, x3)), σ =>
    f_X0_longestUnused_L4 n (.inr (.inr (.inl (x0, x1, x2, x3, (0 : Int32))))) σ
  | n + 1, .inr (.inr (.inl (x0, x1, x2, x3, s0))), σ =>
    if s0 = (0 : Int32) then
      f_X0_longestUnused_L4 n (.inr (.inr (.inr (.inr ((x0, x1, x2)))))) σ
    else
      if x1 = 0 then
        f_X0_longestUnused_L4 n (.inr (.inr (.inr (.inl (x0, x2, x3))))) σ
      else
        if (KH x3).1 = 6 then
          if (KH x1).1 = 6 then
            if (σ.1 x1 3) ≤ (σ.1 x3 3) then
              f_X0_longestUnused_L4 n (.inr (.inr (.inr (.inr ((x0, x1, x2)))))) σ
            else
              f_X0_longestUnused_L4 n (.inr (.inr (.inr (.inl (x0, x2, x3))))) σ
          else none
        else none
  | n + 1, .inr (.inr (.inr (.inl (x0, x2, x3)))), σ =>
    f_X0_longestUnused_L4 n (.inr (.inr (.inr (.inr ((x0, x3, x2)))))) σ
  | n + 1, .inr (.inr (.inr (.inr ((x0, x1, x2))))), σ =>
    f_X0_longestUnused_L4 n (.inl (x0, x1, (x2 + (1 : Int32)))) σ
set_option maxHeartbeats 4000000 in
set_option maxRecDepth 20000 in
theorem s_X0_longestUnused_L4 : ∀ (n : Nat), (∀ (x0 : Nat) (x1 : Nat) (x2 : Int32) (σ : eMem), Snd false none 2 m_X0_longestUnused (f_X0_longestUnused_L4 n (.inl (x0, x1, x2)) σ) (cN iR) (4, [(0, .inr (.inr (x0))), (1, .inr (.inr (x1))), (2, .inl (x2))], [], hp σ, 0, 0)) ∧ (∀ (x0 : Nat) (x1 : Nat) (x2 : Int32) (x3 : Nat) (σ : eMem), Snd false none 2 m_X0_longestUnused (f_X0_longestUnused_L4 n (.inr (.inl (x0, x1, x2, x3))) σ) (cN iR) (41, [(0, .inr (.inr (x0))), (1, .inr (.inr (x1))), (2, .inl (x2)), (3, .inr (.inr (x3)))], [], hp σ, 0, 0)) ∧ (∀ (x0 : Nat) (x1 : Nat) (x2 : Int32) (x3 : Nat) (s0 : Int32) (σ : eMem), Snd false none 2 m_X0_longestUnused (f_X0_longestUnused_L4 n (.inr (.inr (.inl (x0, x1, x2, x3, s0)))) σ) (cN iR) (42, [(0, .inr (.inr (x0))), (1, .inr (.inr (x1))), (2, .inl (x2)), (3, .inr (.inr (x3)))], [.inl (s0)], hp σ, 0, 0)) ∧ (∀ (x0 : Nat) (x2 : Int32) (x3 : Nat) (σ : eMem), Snd false none 2 m_X0_longestUnused (f_X0_longestUnused_L4 n (.inr (.inr (.inr (.inl (x0, x2, x3))))) σ) (cN iR) (64, [(0, .inr (.inr (x0))), (2, .inl (x2)), (3, .inr (.inr (x3)))], [], hp σ, 0, 0)) ∧ (∀ (x0 : Nat) (x1 : Nat) (x2 : Int32) (σ : eMem), Snd false none 2 m_X0_longestUnused (f_X0_longestUnused_L4 n (.inr (.inr (.inr (.inr ((x0, x1, x2)))))) σ) (cN iR) (66, [(0, .inr (.inr (x0))), (1, .inr (.inr (x1))), (2, .inl (x2))], [], hp σ, 0, 0)) := by
  intro n
  induction n with
  | zero => exact ⟨fun _ _ _ _ => T_none, fun _ _ _ _ _ => T_none, fun _ _ _ _ _ _ => T_none, fun _ _ _ _ => T_none, fun _ _ _ _ => T_none⟩
  | succ n ih =>
    refine ⟨?_, ?_, ?_, ?_, ?_⟩
    · intro x0 x1 x2 σ
      unfold f_X0_longestUnused_L4
      refine T_go (S' := (6, [(0, .inr (.inr (x0))), (1, .inr (.inr (x1))), (2, .inl (x2))], [.inl ((4 : Int32)), .inl (x2)], hp σ, 0, 0)) 2 rfl ?_
      refine T_icmp_ge 72 rfl rfl (fun _ => ?_) (fun _ => ?_)
      · refine T_go (S' := (73, [(0, .inr (.inr (x0))), (1, .inr (.inr (x1))), (2, .inl (x2))], [.inr (.inr (x1))], hp σ, 0, 0)) 1 rfl ?_
        exact T_ret rfl
      · refine T_go (S' := (10, [(0, .inr (.inr (x0))), (1, .inr (.inr (x1))), (2, .inl (x2))], [.inr (.inr (x0))], hp σ, 0, 0)) 1 rfl ?_
        refine T_getR rfl (fun _ => ?_)
        refine T_go (S' := (14, [(0, .inr (.inr (x0))), (1, .inr (.inr (x1))), (2, .inl (x2))], [.inl (x2), .inr (.inr ((RH x0 3)))], hp σ, 0, 0)) 1 rfl ?_
        refine T_aald rfl (fun _ => ?_)
        refine T_go (S' := (16, [(3, .inr (.inr ((RH (RH x0 3) x2.toNatClampNeg)))), (0, .inr (.inr (x0))), (1, .inr (.inr (x1))), (2, .inl (x2))], [], hp σ, 0, 0)) 1 rfl ?_
        refine T_let (Sf := fun v1 => (16, [(3, .inr (.inr (v1))), (0, .inr (.inr (x0))), (1, .inr (.inr (x1))), (2, .inl (x2))], [], hp σ, 0, 0)) (fun v1 => ?_)
        refine T_go (S' := (17, [(3, .inr (.inr (v1))), (0, .inr (.inr (x0))), (1, .inr (.inr (x1))), (2, .inl (x2))], [.inr (.inr (v1))], hp σ, 0, 0)) 1 rfl ?_
        refine T_cv (i := iI) (as := [.inr (.inr (v1))]) (rest := []) (st := [.inr (.inr (v1))]) rfl rfl rfl ⟨lb rfl, lb rfl, lb rfl, lb rfl⟩ (fun _ h => Ew_le (lb rfl) (s_X7_hasValue v1 σ _ h)) (fun _ r2 => ?_)
        show Snd false none _ _ _ (cN iR) (20, [(3, .inr (.inr (v1))), (0, .inr (.inr (x0))), (1, .inr (.inr (x1))), (2, .inl (x2))], [.inl (r2.1)], hp r2.2, 0, 0)
        refine T_if_eq 41 rfl rfl (fun _ => ?_) (fun _ => ?_)
        · refine T_loc (ls' := [(0, .inr (.inr (x0))), (1, .inr (.inr (x1))), (2, .inl (x2)), (3, .inr (.inr (v1)))]) [1, 2, 3, 0] rfl ?_
          exact (ih.2.1) x0 x1 x2 v1 r2.2
        · refine T_go (S' := (24, [(3, .inr (.inr (v1))), (0, .inr (.inr (x0))), (1, .inr (.inr (x1))), (2, .inl (x2))], [.inr (.inr (x0))], hp r2.2, 0, 0)) 1 rfl ?_
          refine T_getR rfl (fun _ => ?_)
          refine T_go (S' := (28, [(3, .inr (.inr (v1))), (0, .inr (.inr (x0))), (1, .inr (.inr (x1))), (2, .inl (x2))], [.inr (.inr (v1)), .inr (.inr ((RH x0 8)))], hp r2.2, 0, 0)) 1 rfl ?_
          refine T_getI rfl (fun _ => ?_)
          refine T_cv (i := iI) (as := [.inr (.inr ((RH x0 8))), .inl ((r2.2.1 v1 0))]) (rest := []) (st := [.inl ((r2.2.1 v1 0)), .inr (.inr ((RH x0 8)))]) rfl rfl rfl ⟨lb rfl, lb rfl, lb rfl, lb rfl⟩ (fun _ h => Ew_le (lb rfl) (s_X10_has (RH x0 8) (r2.2.1 v1 0) r2.2 _ h)) (fun _ r3 => ?_)
          show Snd false none _ _ _ (cN iR) (34, [(3, .inr (.inr (v1))), (0, .inr (.inr (x0))), (1, .inr (.inr (x1))), (2, .inl (x2))], [.inl (r3.1)], hp r3.2, 0, 0)
          refine T_if_ne 41 rfl rfl (fun _ => ?_) (fun _ => ?_)
          · refine T_loc (ls' := [(0, .inr (.inr (x0))), (1, .inr (.inr (x1))), (2, .inl (x2)), (3, .inr (.inr (v1)))]) [1, 2, 3, 0] rfl ?_
            exact (ih.2.1) x0 x1 x2 v1 r3.2
          · refine T_go (S' := (42, [(3, .inr (.inr (v1))), (0, .inr (.inr (x0))), (1, .inr (.inr (x1))), (2, .inl (x2))], [.inl ((1 : Int32))], hp r3.2, 0, 0)) 2 rfl ?_
            refine T_loc (ls' := [(0, .inr (.inr (x0))), (1, .inr (.inr (x1))), (2, .inl (x2)), (3, .inr (.inr (v1)))]) [1, 2, 3, 0] rfl ?_
            exact (ih.2.2.1) x0 x1 x2 v1 (1 : Int32) r3.2
    · intro x0 x1 x2 x3 σ
      unfold f_X0_longestUnused_L4
      refine T_go (S' := (42, [(0, .inr (.inr (x0))), (1, .inr (.inr (x1))), (2, .inl (x2)), (3, .inr (.inr (x3)))], [.inl ((0 : Int32))], hp σ, 0, 0)) 1 rfl ?_
      refine T_loc (ls' := [(0, .inr (.inr (x0))), (1, .inr (.inr (x1))), (2, .inl (x2)), (3, .inr (.inr (x3)))]) [0, 1, 2, 3] rfl ?_
      exact (ih.2.2.1) x0 x1 x2 x3 (0 : Int32) σ
    · intro x0 x1 x2 x3 s0 σ
      unfold f_X0_longestUnused_L4
      refine T_go (S' := (46, [(4, .inl (s0)), (0, .inr (.inr (x0))), (1, .inr (.inr (x1))), (2, .inl (x2)), (3, .inr (.inr (x3)))], [.inl (s0)], hp σ, 0, 0)) 2 rfl ?_
      refine T_if_eq 66 rfl rfl (fun _ => ?_) (fun _ => ?_)
      · refine T_loc (ls' := [(0, .inr (.inr (x0))), (1, .inr (.inr (x1))), (2, .inl (x2))]) [1, 2, 3] rfl ?_
        exact (ih.2.2.2.2) x0 x1 x2 σ
      · refine T_go (S' := (50, [(4, .inl (s0)), (0, .inr (.inr (x0))), (1, .inr (.inr (x1))), (2, .inl (x2)), (3, .inr (.inr (x3)))], [.inr (.inr (x1))], hp σ, 0, 0)) 1 rfl ?_
        refine T_ifnull 64 rfl rfl (fun _ => ?_) (fun _ => ?_)
        · refine T_loc (ls' := [(0, .inr (.inr (x0))), (2, .inl (x2)), (3, .inr (.inr (x3)))]) [1, 3, 4] rfl ?_
          exact (ih.2.2.2.1) x0 x2 x3 σ
        · refine T_go (S' := (54, [(4, .inl (s0)), (0, .inr (.inr (x0))), (1, .inr (.inr (x1))), (2, .inl (x2)), (3, .inr (.inr (x3)))], [.inr (.inr (x3))], hp σ, 0, 0)) 1 rfl ?_
          refine T_getI rfl (fun _ => ?_)
          refine T_go (S' := (58, [(4, .inl (s0)), (0, .inr (.inr (x0))), (1, .inr (.inr (x1))), (2, .inl (x2)), (3, .inr (.inr (x3)))], [.inr (.inr (x1)), .inl ((σ.1 x3 3))], hp σ, 0, 0)) 1 rfl ?_
          refine T_getI rfl (fun _ => ?_)
          refine T_icmp_ge 66 rfl rfl (fun _ => ?_) (fun _ => ?_)
          · refine T_loc (ls' := [(0, .inr (.inr (x0))), (1, .inr (.inr (x1))), (2, .inl (x2))]) [1, 2, 3] rfl ?_
            exact (ih.2.2.2.2) x0 x1 x2 σ
          · refine T_loc (ls' := [(0, .inr (.inr (x0))), (2, .inl (x2)), (3, .inr (.inr (x3)))]) [1, 3, 4] rfl ?_
            exact (ih.2.2.2.1) x0 x2 x3 σ
    · intro x0 x2 x3 σ
      unfold f_X0_longestUnused_L4
      refine T_go (S' := (66, [(1, .inr (.inr (x3))), (0, .inr (.inr (x0))), (2, .inl (x2)), (3, .inr (.inr (x3)))], [], hp σ, 0, 0)) 2 rfl ?_
      refine T_loc (ls' := [(0, .inr (.inr (x0))), (1, .inr (.inr (x3))), (2, .inl (x2))]) [1, 0, 2] rfl ?_
      exact (ih.2.2.2.2) x0 x3 x2 σ
    · intro x0 x1 x2 σ
      unfold f_X0_longestUnused_L4
      refine T_go (S' := (4, [(2, .inl ((x2 + (1 : Int32)))), (0, .inr (.inr (x0))), (1, .inr (.inr (x1)))], [], hp σ, 0, 0)) 2 rfl ?_
      refine T_loc (ls' := [(0, .inr (.inr (x0))), (1, .inr (.inr (x1))), (2, .inl ((x2 + (1 : Int32))))]) [1, 2, 0] rfl ?_
      exact (ih.1) x0 x1 (x2 + (1 : Int32)) σ
def f_X0_longestUnused (x0 : Nat) (σ : eMem) : Option (Nat × eMem) :=
  eLet ((0 : Nat) : Nat) (fun v1 =>
    f_X0_longestUnused_L4 1000000 (.inl (x0, v1, (0 : Int32))) σ
    )
set_option maxHeartbeats 4000000 in
set_option maxRecDepth 20000 in
theorem s_X0_longestUnused (x0 : Nat) (σ : eMem) : ∀ r, f_X0_longestUnused x0 σ = some r → Ew false 3 16 [.inr (.inr (x0))] (hp σ) (cN iR r) := by
  refine T_meth (md := m_X0_longestUnused) (d0 := 2) (cv := (cN iR)) rfl (lb rfl) (lb rfl) ?_
  unfold f_X0_longestUnused
  show Snd false none _ _ _ _ (0, [(0, .inr (.inr (x0)))], [], hp σ, 0, 0)
  refine T_go (S' := (2, [(1, .inr (.inr ((0 : Nat)))), (0, .inr (.inr (x0)))], [], hp σ, 0, 0)) 2 rfl ?_
  refine T_let (Sf := fun v1 => (2, [(1, .inr (.inr (v1))), (0, .inr (.inr (x0)))], [], hp σ, 0, 0)) (fun v1 => ?_)
  refine T_go (S' := (4, [(2, .inl ((0 : Int32))), (1, .inr (.inr (v1))), (0, .inr (.inr (x0)))], [], hp σ, 0, 0)) 2 rfl ?_
  refine T_loc (ls' := [(0, .inr (.inr (x0))), (1, .inr (.inr (v1))), (2, .inl ((0 : Int32)))]) [2, 1, 0] rfl ?_
  exact (s_X0_longestUnused_L4 1000000).1 x0 v1 (0 : Int32) σ
def f_X3_send_31  (σ : eMem) : Option (Unit × eMem) :=
  some ((), σ)
set_option maxHeartbeats 4000000 in
set_option maxRecDepth 20000 in
theorem s_X3_send_31  (σ : eMem) : Snd false none 0 m_X3_send (f_X3_send_31 σ) (cN iU) (31, [], [], hp σ, 0, 0) := by
  unfold f_X3_send_31
  exact T_ret rfl
def f_X3_send (x0 : Nat) (x1 : Int32) (x2 : Int32) (x3 : Int32) (σ : eMem) : Option (Unit × eMem) :=
  eLet (((x1 * (5 : Int32)) + x2) : Int32) (fun v1 =>
    if v1 < (0 : Int32) then
      f_X3_send_31  σ
    else
      if (15 : Int32) ≤ v1 then
        f_X3_send_31  σ
      else
        if (KH x0).1 = 3 then
          if (KH (RH x0 2)).1 = 11 ∧ eix v1 (KH (RH x0 2)).2 = true then
            if (σ.1 (RH x0 2) v1.toNatClampNeg) < (64 : Int32) then
              if (KH x0).1 = 3 then
                if (KH (RH x0 0)).1 = 17 ∧ eix v1 (KH (RH x0 0)).2 = true then
                  if (KH x0).1 = 3 then
                    if (KH (RH x0 1)).1 = 11 ∧ eix v1 (KH (RH x0 1)).2 = true then
                      if (KH x0).1 = 3 then
                        if (KH (RH x0 2)).1 = 11 ∧ eix v1 (KH (RH x0 2)).2 = true then
                          if ¬ (64 : Int32) = 0 then
                            if (KH (RH (RH x0 0) v1.toNatClampNeg)).1 = 11 ∧ eix (((σ.1 (RH x0 1) v1.toNatClampNeg) + (σ.1 (RH x0 2) v1.toNatClampNeg)) - ((σ.1 (RH x0 1) v1.toNatClampNeg) + (σ.1 (RH x0 2) v1.toNatClampNeg)) / (64 : Int32) * (64 : Int32)) (KH (RH (RH x0 0) v1.toNatClampNeg)).2 = true then eLet ((eup σ.1 (RH (RH x0 0) v1.toNatClampNeg) (((σ.1 (RH x0 1) v1.toNatClampNeg) + (σ.1 (RH x0 2) v1.toNatClampNeg)) - ((σ.1 (RH x0 1) v1.toNatClampNeg) + (σ.1 (RH x0 2) v1.toNatClampNeg)) / (64 : Int32) * (64 : Int32)).toNatClampNeg x3, σ.2) : eMem) (fun σ2 =>
                              if (KH x0).1 = 3 then
                                if (KH (RH x0 2)).1 = 11 ∧ eix v1 (KH (RH x0 2)).2 = true then
                                  if (KH (RH x0 2)).1 = 11 ∧ eix v1 (KH (RH x0 2)).2 = true then eLet ((eup σ2.1 (RH x0 2) v1.toNatClampNeg ((σ2.1 (RH x0 2) v1.toNatClampNeg) + (1 : Int32)), σ2.2) : eMem) (fun σ3 =>
                                    some ((), σ3)
                                    ) else none
                                else none
                              else none
                              ) else none
                          else none
                        else none
                      else none
                    else none
                  else none
                else none
              else none
            else
              f_X3_send_31  σ
          else none
        else none
    )
set_option maxHeartbeats 4000000 in
set_option maxRecDepth 20000 in
theorem s_X3_send (x0 : Nat) (x1 : Int32) (x2 : Int32) (x3 : Int32) (σ : eMem) : ∀ r, f_X3_send x0 x1 x2 x3 σ = some r → Ew false 1 43 [.inr (.inr (x0)), .inl (x1), .inl (x2), .inl (x3)] (hp σ) (cN iU r) := by
  refine T_meth (md := m_X3_send) (d0 := 0) (cv := (cN iU)) rfl (lb rfl) (lb rfl) ?_
  unfold f_X3_send
  show Snd false none _ _ _ _ (0, [(0, .inr (.inr (x0))), (1, .inl (x1)), (2, .inl (x2)), (3, .inl (x3))], [], hp σ, 0, 0)
  refine T_go (S' := (7, [(4, .inl (((x1 * (5 : Int32)) + x2))), (0, .inr (.inr (x0))), (1, .inl (x1)), (2, .inl (x2)), (3, .inl (x3))], [], hp σ, 0, 0)) 6 rfl ?_
  refine T_let (Sf := fun v1 => (7, [(4, .inl (v1)), (0, .inr (.inr (x0))), (1, .inl (x1)), (2, .inl (x2)), (3, .inl (x3))], [], hp σ, 0, 0)) (fun v1 => ?_)
  refine T_go (S' := (9, [(4, .inl (v1)), (0, .inr (.inr (x0))), (1, .inl (x1)), (2, .inl (x2)), (3, .inl (x3))], [.inl (v1)], hp σ, 0, 0)) 1 rfl ?_
  refine T_if_lt 31 rfl rfl (fun _ => ?_) (fun _ => ?_)
  · refine T_loc (ls' := []) [] rfl ?_
    exact s_X3_send_31  σ
  · refine T_go (S' := (16, [(4, .inl (v1)), (0, .inr (.inr (x0))), (1, .inl (x1)), (2, .inl (x2)), (3, .inl (x3))], [.inl ((15 : Int32)), .inl (v1)], hp σ, 0, 0)) 2 rfl ?_
    refine T_icmp_ge 31 rfl rfl (fun _ => ?_) (fun _ => ?_)
    · refine T_loc (ls' := []) [] rfl ?_
      exact s_X3_send_31  σ
    · refine T_go (S' := (20, [(4, .inl (v1)), (0, .inr (.inr (x0))), (1, .inl (x1)), (2, .inl (x2)), (3, .inl (x3))], [.inr (.inr (x0))], hp σ, 0, 0)) 1 rfl ?_
      refine T_getR rfl (fun _ => ?_)
      refine T_go (S' := (25, [(4, .inl (v1)), (0, .inr (.inr (x0))), (1, .inl (x1)), (2, .inl (x2)), (3, .inl (x3))], [.inl (v1), .inr (.inr ((RH x0 2)))], hp σ, 0, 0)) 1 rfl ?_
      refine T_iald rfl (fun _ => ?_)
      refine T_go (S' := (28, [(4, .inl (v1)), (0, .inr (.inr (x0))), (1, .inl (x1)), (2, .inl (x2)), (3, .inl (x3))], [.inl ((64 : Int32)), .inl ((σ.1 (RH x0 2) v1.toNatClampNeg))], hp σ, 0, 0)) 1 rfl ?_
      refine T_icmp_lt 32 rfl rfl (fun _ => ?_) (fun _ => ?_)
      · refine T_go (S' := (33, [(4, .inl (v1)), (0, .inr (.inr (x0))), (1, .inl (x1)), (2, .inl (x2)), (3, .inl (x3))], [.inr (.inr (x0))], hp σ, 0, 0)) 1 rfl ?_
        refine T_getR rfl (fun _ => ?_)
        refine T_go (S' := (38, [(4, .inl (v1)), (0, .inr (.inr (x0))), (1, .inl (x1)), (2, .inl (x2)), (3, .inl (x3))], [.inl (v1), .inr (.inr ((RH x0 0)))], hp σ, 0, 0)) 1 rfl ?_
        refine T_aald rfl (fun _ => ?_)
        refine T_go (S' := (40, [(4, .inl (v1)), (0, .inr (.inr (x0))), (1, .inl (x1)), (2, .inl (x2)), (3, .inl (x3))], [.inr (.inr (x0)), .inr (.inr ((RH (RH x0 0) v1.toNatClampNeg)))], hp σ, 0, 0)) 1 rfl ?_
        refine T_getR rfl (fun _ => ?_)
        refine T_go (S' := (45, [(4, .inl (v1)), (0, .inr (.inr (x0))), (1, .inl (x1)), (2, .inl (x2)), (3, .inl (x3))], [.inl (v1), .inr (.inr ((RH x0 1))), .inr (.inr ((RH (RH x0 0) v1.toNatClampNeg)))], hp σ, 0, 0)) 1 rfl ?_
        refine T_iald rfl (fun _ => ?_)
        refine T_go (S' := (47, [(4, .inl (v1)), (0, .inr (.inr (x0))), (1, .inl (x1)), (2, .inl (x2)), (3, .inl (x3))], [.inr (.inr (x0)), .inl ((σ.1 (RH x0 1) v1.toNatClampNeg)), .inr (.inr ((RH (RH x0 0) v1.toNatClampNeg)))], hp σ, 0, 0)) 1 rfl ?_
        refine T_getR rfl (fun _ => ?_)
        refine T_go (S' := (52, [(4, .inl (v1)), (0, .inr (.inr (x0))), (1, .inl (x1)), (2, .inl (x2)), (3, .inl (x3))], [.inl (v1), .inr (.inr ((RH x0 2))), .inl ((σ.1 (RH x0 1) v1.toNatClampNeg)), .inr (.inr ((RH (RH x0 0) v1.toNatClampNeg)))], hp σ, 0, 0)) 1 rfl ?_
        refine T_iald rfl (fun _ => ?_)
        refine T_go (S' := (56, [(4, .inl (v1)), (0, .inr (.inr (x0))), (1, .inl (x1)), (2, .inl (x2)), (3, .inl (x3))], [.inl ((64 : Int32)), .inl (((σ.1 (RH x0 1) v1.toNatClampNeg) + (σ.1 (RH x0 2) v1.toNatClampNeg))), .inr (.inr ((RH (RH x0 0) v1.toNatClampNeg)))], hp σ, 0, 0)) 2 rfl ?_
        refine T_irem rfl (fun _ => ?_)
        refine T_go (S' := (58, [(4, .inl (v1)), (0, .inr (.inr (x0))), (1, .inl (x1)), (2, .inl (x2)), (3, .inl (x3))], [.inl (x3), .inl ((((σ.1 (RH x0 1) v1.toNatClampNeg) + (σ.1 (RH x0 2) v1.toNatClampNeg)) - ((σ.1 (RH x0 1) v1.toNatClampNeg) + (σ.1 (RH x0 2) v1.toNatClampNeg)) / (64 : Int32) * (64 : Int32))), .inr (.inr ((RH (RH x0 0) v1.toNatClampNeg)))], hp σ, 0, 0)) 1 rfl ?_
        refine T_iast rfl (fun _ => ?_)
        refine T_let (Sf := fun σ2 => (59, [(4, .inl (v1)), (0, .inr (.inr (x0))), (1, .inl (x1)), (2, .inl (x2)), (3, .inl (x3))], [], hp σ2, 0, 0)) (fun σ2 => ?_)
        refine T_go (S' := (60, [(4, .inl (v1)), (0, .inr (.inr (x0))), (1, .inl (x1)), (2, .inl (x2)), (3, .inl (x3))], [.inr (.inr (x0))], hp σ2, 0, 0)) 1 rfl ?_
        refine T_getR rfl (fun _ => ?_)
        refine T_go (S' := (66, [(4, .inl (v1)), (0, .inr (.inr (x0))), (1, .inl (x1)), (2, .inl (x2)), (3, .inl (x3))], [.inl (v1), .inr (.inr ((RH x0 2))), .inl (v1), .inr (.inr ((RH x0 2)))], hp σ2, 0, 0)) 2 rfl ?_
        refine T_iald rfl (fun _ => ?_)
        refine T_go (S' := (69, [(4, .inl (v1)), (0, .inr (.inr (x0))), (1, .inl (x1)), (2, .inl (x2)), (3, .inl (x3))], [.inl (((σ2.1 (RH x0 2) v1.toNatClampNeg) + (1 : Int32))), .inl (v1), .inr (.inr ((RH x0 2)))], hp σ2, 0, 0)) 2 rfl ?_
        refine T_iast rfl (fun _ => ?_)
        refine T_let (Sf := fun σ3 => (70, [(4, .inl (v1)), (0, .inr (.inr (x0))), (1, .inl (x1)), (2, .inl (x2)), (3, .inl (x3))], [], hp σ3, 0, 0)) (fun σ3 => ?_)
        exact T_ret rfl
      · refine T_loc (ls' := []) [] rfl ?_
        exact s_X3_send_31  σ
def f_X4_of (x0 : Int32) (x1 : Int32) (x2 : Int32) (x3 : Int32) (σ : eMem) : Option (Int32 × eMem) :=
  some ((((x0 ||| (x1 <<< ((4 : Int32) &&& 31))) ||| (x2 <<< ((8 : Int32) &&& 31))) ||| ((x3 + (1 : Int32)) <<< ((10 : Int32) &&& 31))), σ)
set_option maxHeartbeats 4000000 in
set_option maxRecDepth 20000 in
theorem s_X4_of (x0 : Int32) (x1 : Int32) (x2 : Int32) (x3 : Int32) (σ : eMem) : ∀ r, f_X4_of x0 x1 x2 x3 σ = some r → Ew false 1 46 [.inl (x0), .inl (x1), .inl (x2), .inl (x3)] (hp σ) (cN iI r) := by
  refine T_meth (md := m_X4_of) (d0 := 0) (cv := (cN iI)) rfl (lb rfl) (lb rfl) ?_
  unfold f_X4_of
  show Snd false none _ _ _ _ (0, [(0, .inl (x0)), (1, .inl (x1)), (2, .inl (x2)), (3, .inl (x3))], [], hp σ, 0, 0)
  refine T_go (S' := (17, [(0, .inl (x0)), (1, .inl (x1)), (2, .inl (x2)), (3, .inl (x3))], [.inl ((((x0 ||| (x1 <<< ((4 : Int32) &&& 31))) ||| (x2 <<< ((8 : Int32) &&& 31))) ||| ((x3 + (1 : Int32)) <<< ((10 : Int32) &&& 31))))], hp σ, 0, 0)) 15 rfl ?_
  exact T_ret rfl
def f_X0_send (x0 : Nat) (x1 : Int32) (x2 : Int32) (x3 : Int32) (x4 : Int32) (σ : eMem) : Option (Unit × eMem) :=
  if (KH x0).1 = 0 then
    if (KH x0).1 = 0 then
      Option.bind (f_X4_of x2 x3 (σ.1 x0 0) x4 σ) (fun r1 =>
        if (KH (RH x0 1)).1 = 3 then
          Option.bind (f_X3_send (RH x0 1) x1 (4 : Int32) r1.1 r1.2) (fun r2 =>
            some ((), r2.2)
            )
        else none
        )
    else none
  else none
set_option maxHeartbeats 4000000 in
set_option maxRecDepth 20000 in
theorem s_X0_send (x0 : Nat) (x1 : Int32) (x2 : Int32) (x3 : Int32) (x4 : Int32) (σ : eMem) : ∀ r, f_X0_send x0 x1 x2 x3 x4 σ = some r → Ew false 2 18 [.inr (.inr (x0)), .inl (x1), .inl (x2), .inl (x3), .inl (x4)] (hp σ) (cN iU r) := by
  refine T_meth (md := m_X0_send) (d0 := 1) (cv := (cN iU)) rfl (lb rfl) (lb rfl) ?_
  unfold f_X0_send
  show Snd false none _ _ _ _ (0, [(0, .inr (.inr (x0))), (1, .inl (x1)), (2, .inl (x2)), (3, .inl (x3)), (4, .inl (x4))], [], hp σ, 0, 0)
  refine T_go (S' := (1, [(0, .inr (.inr (x0))), (1, .inl (x1)), (2, .inl (x2)), (3, .inl (x3)), (4, .inl (x4))], [.inr (.inr (x0))], hp σ, 0, 0)) 1 rfl ?_
  refine T_getR rfl (fun _ => ?_)
  refine T_go (S' := (9, [(0, .inr (.inr (x0))), (1, .inl (x1)), (2, .inl (x2)), (3, .inl (x3)), (4, .inl (x4))], [.inr (.inr (x0)), .inl (x3), .inl (x2), .inl ((4 : Int32)), .inl (x1), .inr (.inr ((RH x0 1)))], hp σ, 0, 0)) 5 rfl ?_
  refine T_getI rfl (fun _ => ?_)
  refine T_go (S' := (14, [(0, .inr (.inr (x0))), (1, .inl (x1)), (2, .inl (x2)), (3, .inl (x3)), (4, .inl (x4))], [.inl (x4), .inl ((σ.1 x0 0)), .inl (x3), .inl (x2), .inl ((4 : Int32)), .inl (x1), .inr (.inr ((RH x0 1)))], hp σ, 0, 0)) 1 rfl ?_
  refine T_cs (i := iI) (as := [.inl (x2), .inl (x3), .inl ((σ.1 x0 0)), .inl (x4)]) (rest := [.inl ((4 : Int32)), .inl (x1), .inr (.inr ((RH x0 1)))]) (st := [.inl (x4), .inl ((σ.1 x0 0)), .inl (x3), .inl (x2), .inl ((4 : Int32)), .inl (x1), .inr (.inr ((RH x0 1)))]) rfl (lb rfl) rfl rfl ⟨lb rfl, lb rfl, lb rfl, lb rfl⟩ (fun _ h => Ew_le (lb rfl) (s_X4_of x2 x3 (σ.1 x0 0) x4 σ _ h)) (fun r1 => ?_)
  show Snd false none _ _ _ (cN iU) (17, [(0, .inr (.inr (x0))), (1, .inl (x1)), (2, .inl (x2)), (3, .inl (x3)), (4, .inl (x4))], [.inl (r1.1), .inl ((4 : Int32)), .inl (x1), .inr (.inr ((RH x0 1)))], hp r1.2, 0, 0)
  refine T_cv (i := iU) (as := [.inr (.inr ((RH x0 1))), .inl (x1), .inl ((4 : Int32)), .inl (r1.1)]) (rest := []) (st := [.inl (r1.1), .inl ((4 : Int32)), .inl (x1), .inr (.inr ((RH x0 1)))]) rfl rfl rfl ⟨lb rfl, lb rfl, lb rfl, lb rfl⟩ (fun _ h => Ew_le (lb rfl) (s_X3_send (RH x0 1) x1 (4 : Int32) r1.1 r1.2 _ h)) (fun _ r2 => ?_)
  show Snd false none _ _ _ (cN iU) (20, [(0, .inr (.inr (x0))), (1, .inl (x1)), (2, .inl (x2)), (3, .inl (x3)), (4, .inl (x4))], [], hp r2.2, 0, 0)
  exact T_ret rfl
def f_X7_becomeEmpty (x0 : Nat) (σ : eMem) : Option (Unit × eMem) :=
  if (KH x0).1 = 6 then eLet ((eup σ.1 x0 0 (-1 : Int32), σ.2) : eMem) (fun σ1 =>
    if (KH x0).1 = 6 then eLet ((eup σ1.1 x0 1 (0 : Int32), σ1.2) : eMem) (fun σ2 =>
      some ((), σ2)
      ) else none
    ) else none
set_option maxHeartbeats 4000000 in
set_option maxRecDepth 20000 in
theorem s_X7_becomeEmpty (x0 : Nat) (σ : eMem) : ∀ r, f_X7_becomeEmpty x0 σ = some r → Ew false 1 69 [.inr (.inr (x0))] (hp σ) (cN iU r) := by
  refine T_meth (md := m_X7_becomeEmpty) (d0 := 0) (cv := (cN iU)) rfl (lb rfl) (lb rfl) ?_
  unfold f_X7_becomeEmpty
  show Snd false none _ _ _ _ (0, [(0, .inr (.inr (x0)))], [], hp σ, 0, 0)
  refine T_go (S' := (2, [(0, .inr (.inr (x0)))], [.inl ((-1 : Int32)), .inr (.inr (x0))], hp σ, 0, 0)) 2 rfl ?_
  refine T_putI rfl (fun _ => ?_)
  refine T_let (Sf := fun σ1 => (5, [(0, .inr (.inr (x0)))], [], hp σ1, 0, 0)) (fun σ1 => ?_)
  refine T_go (S' := (7, [(0, .inr (.inr (x0)))], [.inl ((0 : Int32)), .inr (.inr (x0))], hp σ1, 0, 0)) 2 rfl ?_
  refine T_putI rfl (fun _ => ?_)
  refine T_let (Sf := fun σ2 => (10, [(0, .inr (.inr (x0)))], [], hp σ2, 0, 0)) (fun σ2 => ?_)
  exact T_ret rfl
def f_X0_vacate_44 (x1 : Nat) (σ : eMem) : Option (Unit × eMem) :=
  if (KH x1).1 = 6 then
    Option.bind (f_X7_becomeEmpty x1 σ) (fun r1 =>
      some ((), r1.2)
      )
  else none
set_option maxHeartbeats 4000000 in
set_option maxRecDepth 20000 in
theorem s_X0_vacate_44 (x1 : Nat) (σ : eMem) : Snd false none 2 m_X0_vacate (f_X0_vacate_44 x1 σ) (cN iU) (44, [(1, .inr (.inr (x1)))], [], hp σ, 0, 0) := by
  unfold f_X0_vacate_44
  refine T_go (S' := (45, [(1, .inr (.inr (x1)))], [.inr (.inr (x1))], hp σ, 0, 0)) 1 rfl ?_
  refine T_cv (i := iU) (as := [.inr (.inr (x1))]) (rest := []) (st := [.inr (.inr (x1))]) rfl rfl rfl ⟨lb rfl, lb rfl, lb rfl, lb rfl⟩ (fun _ h => Ew_le (lb rfl) (s_X7_becomeEmpty x1 σ _ h)) (fun _ r1 => ?_)
  show Snd false none _ _ _ (cN iU) (48, [(1, .inr (.inr (x1)))], [], hp r1.2, 0, 0)
  exact T_ret rfl
def f_X0_vacate (x0 : Nat) (x1 : Nat) (σ : eMem) : Option (Unit × eMem) :=
  if (KH x1).1 = 6 then
    Option.bind (f_X7_mayBeWritten x1 σ) (fun r1 =>
      if r1.1 = (0 : Int32) then
        f_X0_vacate_44 x1 r1.2
      else
        if (KH x0).1 = 0 then
          if (KH x1).1 = 6 then
            if (KH x1).1 = 6 then
              if (KH (RH x0 4)).1 = 11 ∧ eix (r1.2.1 x1 0) (KH (RH x0 4)).2 = true then eLet ((eup r1.2.1 (RH x0 4) (r1.2.1 x1 0).toNatClampNeg (r1.2.1 x1 2), r1.2.2) : eMem) (fun σ2 =>
                if (KH x0).1 = 0 then
                  if (KH (RH x0 2)).1 = 11 ∧ eix (3 : Int32) (KH (RH x0 2)).2 = true then
                    if (KH (RH x0 2)).1 = 11 ∧ eix (3 : Int32) (KH (RH x0 2)).2 = true then eLet ((eup σ2.1 (RH x0 2) (3 : Int32).toNatClampNeg ((σ2.1 (RH x0 2) (3 : Int32).toNatClampNeg) + (1 : Int32)), σ2.2) : eMem) (fun σ3 =>
                      if (KH x1).1 = 6 then
                        if (KH x1).1 = 6 then
                          if (KH x0).1 = 0 then
                            Option.bind (f_X0_send x0 (0 : Int32) (2 : Int32) (σ3.1 x1 0) (σ3.1 x1 2) σ3) (fun r4 =>
                              f_X0_vacate_44 x1 r4.2
                              )
                          else none
                        else none
                      else none
                      ) else none
                  else none
                else none
                ) else none
            else none
          else none
        else none
      )
  else none
set_option maxHeartbeats 4000000 in
set_option maxRecDepth 20000 in
theorem s_X0_vacate (x0 : Nat) (x1 : Nat) (σ : eMem) : ∀ r, f_X0_vacate x0 x1 σ = some r → Ew false 3 17 [.inr (.inr (x0)), .inr (.inr (x1))] (hp σ) (cN iU r) := by
  refine T_meth (md := m_X0_vacate) (d0 := 2) (cv := (cN iU)) rfl (lb rfl) (lb rfl) ?_
  unfold f_X0_vacate
  show Snd false none _ _ _ _ (0, [(0, .inr (.inr (x0))), (1, .inr (.inr (x1)))], [], hp σ, 0, 0)
  refine T_go (S' := (1, [(0, .inr (.inr (x0))), (1, .inr (.inr (x1)))], [.inr (.inr (x1))], hp σ, 0, 0)) 1 rfl ?_
  refine T_cv (i := iI) (as := [.inr (.inr (x1))]) (rest := []) (st := [.inr (.inr (x1))]) rfl rfl rfl ⟨lb rfl, lb rfl, lb rfl, lb rfl⟩ (fun _ h => Ew_le (lb rfl) (s_X7_mayBeWritten x1 σ _ h)) (fun _ r1 => ?_)
  show Snd false none _ _ _ (cN iU) (4, [(0, .inr (.inr (x0))), (1, .inr (.inr (x1)))], [.inl (r1.1)], hp r1.2, 0, 0)
  refine T_if_eq 44 rfl rfl (fun _ => ?_) (fun _ => ?_)
  · refine T_loc (ls' := [(1, .inr (.inr (x1)))]) [1] rfl ?_
    exact s_X0_vacate_44 x1 r1.2
  · refine T_go (S' := (8, [(0, .inr (.inr (x0))), (1, .inr (.inr (x1)))], [.inr (.inr (x0))], hp r1.2, 0, 0)) 1 rfl ?_
    refine T_getR rfl (fun _ => ?_)
    refine T_go (S' := (12, [(0, .inr (.inr (x0))), (1, .inr (.inr (x1)))], [.inr (.inr (x1)), .inr (.inr ((RH x0 4)))], hp r1.2, 0, 0)) 1 rfl ?_
    refine T_getI rfl (fun _ => ?_)
    refine T_go (S' := (16, [(0, .inr (.inr (x0))), (1, .inr (.inr (x1)))], [.inr (.inr (x1)), .inl ((r1.2.1 x1 0)), .inr (.inr ((RH x0 4)))], hp r1.2, 0, 0)) 1 rfl ?_
    refine T_getI rfl (fun _ => ?_)
    refine T_iast rfl (fun _ => ?_)
    refine T_let (Sf := fun σ2 => (20, [(0, .inr (.inr (x0))), (1, .inr (.inr (x1)))], [], hp σ2, 0, 0)) (fun σ2 => ?_)
    refine T_go (S' := (21, [(0, .inr (.inr (x0))), (1, .inr (.inr (x1)))], [.inr (.inr (x0))], hp σ2, 0, 0)) 1 rfl ?_
    refine T_getR rfl (fun _ => ?_)
    refine T_go (S' := (26, [(0, .inr (.inr (x0))), (1, .inr (.inr (x1)))], [.inl ((3 : Int32)), .inr (.inr ((RH x0 2))), .inl ((3 : Int32)), .inr (.inr ((RH x0 2)))], hp σ2, 0, 0)) 2 rfl ?_
    refine T_iald rfl (fun _ => ?_)
    refine T_go (S' := (29, [(0, .inr (.inr (x0))), (1, .inr (.inr (x1)))], [.inl (((σ2.1 (RH x0 2) (3 : Int32).toNatClampNeg) + (1 : Int32))), .inl ((3 : Int32)), .inr (.inr ((RH x0 2)))], hp σ2, 0, 0)) 2 rfl ?_
    refine T_iast rfl (fun _ => ?_)
    refine T_let (Sf := fun σ3 => (30, [(0, .inr (.inr (x0))), (1, .inr (.inr (x1)))], [], hp σ3, 0, 0)) (fun σ3 => ?_)
    refine T_go (S' := (34, [(0, .inr (.inr (x0))), (1, .inr (.inr (x1)))], [.inr (.inr (x1)), .inl ((2 : Int32)), .inl ((0 : Int32)), .inr (.inr (x0))], hp σ3, 0, 0)) 4 rfl ?_
    refine T_getI rfl (fun _ => ?_)
    refine T_go (S' := (38, [(0, .inr (.inr (x0))), (1, .inr (.inr (x1)))], [.inr (.inr (x1)), .inl ((σ3.1 x1 0)), .inl ((2 : Int32)), .inl ((0 : Int32)), .inr (.inr (x0))], hp σ3, 0, 0)) 1 rfl ?_
    refine T_getI rfl (fun _ => ?_)
    refine T_cv (i := iU) (as := [.inr (.inr (x0)), .inl ((0 : Int32)), .inl ((2 : Int32)), .inl ((σ3.1 x1 0)), .inl ((σ3.1 x1 2))]) (rest := []) (st := [.inl ((σ3.1 x1 2)), .inl ((σ3.1 x1 0)), .inl ((2 : Int32)), .inl ((0 : Int32)), .inr (.inr (x0))]) rfl rfl rfl ⟨lb rfl, lb rfl, lb rfl, lb rfl⟩ (fun _ h => Ew_le (lb rfl) (s_X0_send x0 (0 : Int32) (2 : Int32) (σ3.1 x1 0) (σ3.1 x1 2) σ3 _ h)) (fun _ r4 => ?_)
    show Snd false none _ _ _ (cN iU) (44, [(0, .inr (.inr (x0))), (1, .inr (.inr (x1)))], [], hp r4.2, 0, 0)
    refine T_loc (ls' := [(1, .inr (.inr (x1)))]) [1] rfl ?_
    exact s_X0_vacate_44 x1 r4.2
def f_X7_waitFor_15 (x0 : Nat) (s0 : Nat) (s1 : Int32) (σ : eMem) : Option (Unit × eMem) :=
  if (KH s0).1 = 6 then eLet ((eup σ.1 s0 1 s1, σ.2) : eMem) (fun σ1 =>
    if (KH x0).1 = 6 ∧ eB (0 : Int32) = true then eLet ((eup σ1.1 x0 4 (0 : Int32), σ1.2) : eMem) (fun σ2 =>
      if (KH x0).1 = 6 then eLet ((eup σ2.1 x0 5 (0 : Int32), σ2.2) : eMem) (fun σ3 =>
        some ((), σ3)
        ) else none
      ) else none
    ) else none
set_option maxHeartbeats 4000000 in
set_option maxRecDepth 20000 in
theorem s_X7_waitFor_15 (x0 : Nat) (s0 : Nat) (s1 : Int32) (σ : eMem) : Snd false none 0 m_X7_waitFor (f_X7_waitFor_15 x0 s0 s1 σ) (cN iU) (15, [(0, .inr (.inr (x0)))], [.inl (s1), .inr (.inr (s0))], hp σ, 0, 0) := by
  unfold f_X7_waitFor_15
  refine T_putI rfl (fun _ => ?_)
  refine T_let (Sf := fun σ1 => (18, [(0, .inr (.inr (x0)))], [], hp σ1, 0, 0)) (fun σ1 => ?_)
  refine T_go (S' := (20, [(0, .inr (.inr (x0)))], [.inl ((0 : Int32)), .inr (.inr (x0))], hp σ1, 0, 0)) 2 rfl ?_
  refine T_putZ rfl (fun _ => ?_)
  refine T_let (Sf := fun σ2 => (23, [(0, .inr (.inr (x0)))], [], hp σ2, 0, 0)) (fun σ2 => ?_)
  refine T_go (S' := (25, [(0, .inr (.inr (x0)))], [.inl ((0 : Int32)), .inr (.inr (x0))], hp σ2, 0, 0)) 2 rfl ?_
  refine T_putI rfl (fun _ => ?_)
  refine T_let (Sf := fun σ3 => (28, [(0, .inr (.inr (x0)))], [], hp σ3, 0, 0)) (fun σ3 => ?_)
  exact T_ret rfl
def f_X7_waitFor (x0 : Nat) (x1 : Int32) (x2 : Int32) (σ : eMem) : Option (Unit × eMem) :=
  if (KH x0).1 = 6 then eLet ((eup σ.1 x0 0 x1, σ.2) : eMem) (fun σ1 =>
    if x2 = (0 : Int32) then
      f_X7_waitFor_15 x0 x0 (4 : Int32) σ1
    else
      f_X7_waitFor_15 x0 x0 (5 : Int32) σ1
    ) else none
set_option maxHeartbeats 4000000 in
set_option maxRecDepth 20000 in
theorem s_X7_waitFor (x0 : Nat) (x1 : Int32) (x2 : Int32) (σ : eMem) : ∀ r, f_X7_waitFor x0 x1 x2 σ = some r → Ew false 1 70 [.inr (.inr (x0)), .inl (x1), .inl (x2)] (hp σ) (cN iU r) := by
  refine T_meth (md := m_X7_waitFor) (d0 := 0) (cv := (cN iU)) rfl (lb rfl) (lb rfl) ?_
  unfold f_X7_waitFor
  show Snd false none _ _ _ _ (0, [(0, .inr (.inr (x0))), (1, .inl (x1)), (2, .inl (x2))], [], hp σ, 0, 0)
  refine T_go (S' := (2, [(0, .inr (.inr (x0))), (1, .inl (x1)), (2, .inl (x2))], [.inl (x1), .inr (.inr (x0))], hp σ, 0, 0)) 2 rfl ?_
  refine T_putI rfl (fun _ => ?_)
  refine T_let (Sf := fun σ1 => (5, [(0, .inr (.inr (x0))), (1, .inl (x1)), (2, .inl (x2))], [], hp σ1, 0, 0)) (fun σ1 => ?_)
  refine T_go (S' := (7, [(0, .inr (.inr (x0))), (1, .inl (x1)), (2, .inl (x2))], [.inl (x2), .inr (.inr (x0))], hp σ1, 0, 0)) 2 rfl ?_
  refine T_if_eq 14 rfl rfl (fun _ => ?_) (fun _ => ?_)
  · refine T_go (S' := (15, [(0, .inr (.inr (x0))), (1, .inl (x1)), (2, .inl (x2))], [.inl ((4 : Int32)), .inr (.inr (x0))], hp σ1, 0, 0)) 1 rfl ?_
    refine T_loc (ls' := [(0, .inr (.inr (x0)))]) [0] rfl ?_
    exact s_X7_waitFor_15 x0 x0 (4 : Int32) σ1
  · refine T_go (S' := (15, [(0, .inr (.inr (x0))), (1, .inl (x1)), (2, .inl (x2))], [.inl ((5 : Int32)), .inr (.inr (x0))], hp σ1, 0, 0)) 2 rfl ?_
    refine T_loc (ls' := [(0, .inr (.inr (x0)))]) [0] rfl ?_
    exact s_X7_waitFor_15 x0 x0 (5 : Int32) σ1
def f_X0_ask_34  (σ : eMem) : Option (Int32 × eMem) :=
  if eB (0 : Int32) = true then some ((0 : Int32), σ) else none
set_option maxHeartbeats 4000000 in
set_option maxRecDepth 20000 in
theorem s_X0_ask_34  (σ : eMem) : Snd false none 3 m_X0_ask (f_X0_ask_34 σ) (cN iI) (34, [], [], hp σ, 0, 0) := by
  unfold f_X0_ask_34
  refine T_go (S' := (35, [], [.inl ((0 : Int32))], hp σ, 0, 0)) 1 rfl ?_
  exact T_chkr rfl
def f_X0_ask_108 (x1 : Int32) (s0 : Nat) (s1 : Int32) (s2 : Int32) (σ : eMem) : Option (Int32 × eMem) :=
  if (KH s0).1 = 0 then
    Option.bind (f_X0_send s0 s1 s2 x1 (-1 : Int32) σ) (fun r1 =>
      if eB (1 : Int32) = true then some ((1 : Int32), r1.2) else none
      )
  else none
set_option maxHeartbeats 4000000 in
set_option maxRecDepth 20000 in
theorem s_X0_ask_108 (x1 : Int32) (s0 : Nat) (s1 : Int32) (s2 : Int32) (σ : eMem) : Snd false none 3 m_X0_ask (f_X0_ask_108 x1 s0 s1 s2 σ) (cN iI) (108, [(1, .inl (x1))], [.inl (s2), .inl (s1), .inr (.inr (s0))], hp σ, 0, 0) := by
  unfold f_X0_ask_108
  refine T_go (S' := (110, [(1, .inl (x1))], [.inl ((-1 : Int32)), .inl (x1), .inl (s2), .inl (s1), .inr (.inr (s0))], hp σ, 0, 0)) 2 rfl ?_
  refine T_cv (i := iU) (as := [.inr (.inr (s0)), .inl (s1), .inl (s2), .inl (x1), .inl ((-1 : Int32))]) (rest := []) (st := [.inl ((-1 : Int32)), .inl (x1), .inl (s2), .inl (s1), .inr (.inr (s0))]) rfl rfl rfl ⟨lb rfl, lb rfl, lb rfl, lb rfl⟩ (fun _ h => Ew_le (lb rfl) (s_X0_send s0 s1 s2 x1 (-1 : Int32) σ _ h)) (fun _ r1 => ?_)
  show Snd false none _ _ _ (cN iI) (113, [(1, .inl (x1))], [], hp r1.2, 0, 0)
  refine T_go (S' := (114, [(1, .inl (x1))], [.inl ((1 : Int32))], hp r1.2, 0, 0)) 1 rfl ?_
  exact T_chkr rfl
def f_X0_ask_92 (x0 : Nat) (x1 : Int32) (x2 : Int32) (s0 : Nat) (s1 : Int32) (σ : eMem) : Option (Int32 × eMem) :=
  if (KH s0).1 = 11 ∧ eix s1 (KH s0).2 = true then
    if (KH s0).1 = 11 ∧ eix s1 (KH s0).2 = true then eLet ((eup σ.1 s0 s1.toNatClampNeg ((σ.1 s0 s1.toNatClampNeg) + (1 : Int32)), σ.2) : eMem) (fun σ1 =>
      if x2 = (0 : Int32) then
        f_X0_ask_108 x1 x0 (0 : Int32) (0 : Int32) σ1
      else
        f_X0_ask_108 x1 x0 (0 : Int32) (1 : Int32) σ1
      ) else none
  else none
set_option maxHeartbeats 4000000 in
set_option maxRecDepth 20000 in
theorem s_X0_ask_92 (x0 : Nat) (x1 : Int32) (x2 : Int32) (s0 : Nat) (s1 : Int32) (σ : eMem) : Snd false none 3 m_X0_ask (f_X0_ask_92 x0 x1 x2 s0 s1 σ) (cN iI) (92, [(0, .inr (.inr (x0))), (1, .inl (x1)), (2, .inl (x2))], [.inl (s1), .inr (.inr (s0))], hp σ, 0, 0) := by
  unfold f_X0_ask_92
  refine T_go (S' := (93, [(0, .inr (.inr (x0))), (1, .inl (x1)), (2, .inl (x2))], [.inl (s1), .inr (.inr (s0)), .inl (s1), .inr (.inr (s0))], hp σ, 0, 0)) 1 rfl ?_
  refine T_iald rfl (fun _ => ?_)
  refine T_go (S' := (96, [(0, .inr (.inr (x0))), (1, .inl (x1)), (2, .inl (x2))], [.inl (((σ.1 s0 s1.toNatClampNeg) + (1 : Int32))), .inl (s1), .inr (.inr (s0))], hp σ, 0, 0)) 2 rfl ?_
  refine T_iast rfl (fun _ => ?_)
  refine T_let (Sf := fun σ1 => (97, [(0, .inr (.inr (x0))), (1, .inl (x1)), (2, .inl (x2))], [], hp σ1, 0, 0)) (fun σ1 => ?_)
  refine T_go (S' := (100, [(0, .inr (.inr (x0))), (1, .inl (x1)), (2, .inl (x2))], [.inl (x2), .inl ((0 : Int32)), .inr (.inr (x0))], hp σ1, 0, 0)) 3 rfl ?_
  refine T_if_eq 107 rfl rfl (fun _ => ?_) (fun _ => ?_)
  · refine T_go (S' := (108, [(0, .inr (.inr (x0))), (1, .inl (x1)), (2, .inl (x2))], [.inl ((0 : Int32)), .inl ((0 : Int32)), .inr (.inr (x0))], hp σ1, 0, 0)) 1 rfl ?_
    refine T_loc (ls' := [(1, .inl (x1))]) [1] rfl ?_
    exact s_X0_ask_108 x1 x0 (0 : Int32) (0 : Int32) σ1
  · refine T_go (S' := (108, [(0, .inr (.inr (x0))), (1, .inl (x1)), (2, .inl (x2))], [.inl ((1 : Int32)), .inl ((0 : Int32)), .inr (.inr (x0))], hp σ1, 0, 0)) 2 rfl ?_
    refine T_loc (ls' := [(1, .inl (x1))]) [1] rfl ?_
    exact s_X0_ask_108 x1 x0 (0 : Int32) (1 : Int32) σ1
def f_X0_ask_73 (x0 : Nat) (x1 : Int32) (x2 : Int32) (x3 : Nat) (σ : eMem) : Option (Int32 × eMem) :=
  if (KH x3).1 = 6 then
    Option.bind (f_X7_waitFor x3 x1 x2 σ) (fun r1 =>
      if (KH x0).1 = 0 then
        if x2 = (0 : Int32) then
          f_X0_ask_92 x0 x1 x2 (RH x0 2) (1 : Int32) r1.2
        else
          f_X0_ask_92 x0 x1 x2 (RH x0 2) (2 : Int32) r1.2
      else none
      )
  else none
set_option maxHeartbeats 4000000 in
set_option maxRecDepth 20000 in
theorem s_X0_ask_73 (x0 : Nat) (x1 : Int32) (x2 : Int32) (x3 : Nat) (σ : eMem) : Snd false none 3 m_X0_ask (f_X0_ask_73 x0 x1 x2 x3 σ) (cN iI) (73, [(0, .inr (.inr (x0))), (1, .inl (x1)), (2, .inl (x2)), (3, .inr (.inr (x3)))], [], hp σ, 0, 0) := by
  unfold f_X0_ask_73
  refine T_go (S' := (76, [(0, .inr (.inr (x0))), (1, .inl (x1)), (2, .inl (x2)), (3, .inr (.inr (x3)))], [.inl (x2), .inl (x1), .inr (.inr (x3))], hp σ, 0, 0)) 3 rfl ?_
  refine T_cv (i := iU) (as := [.inr (.inr (x3)), .inl (x1), .inl (x2)]) (rest := []) (st := [.inl (x2), .inl (x1), .inr (.inr (x3))]) rfl rfl rfl ⟨lb rfl, lb rfl, lb rfl, lb rfl⟩ (fun _ h => Ew_le (lb rfl) (s_X7_waitFor x3 x1 x2 σ _ h)) (fun _ r1 => ?_)
  show Snd false none _ _ _ (cN iI) (79, [(0, .inr (.inr (x0))), (1, .inl (x1)), (2, .inl (x2)), (3, .inr (.inr (x3)))], [], hp r1.2, 0, 0)
  refine T_go (S' := (80, [(0, .inr (.inr (x0))), (1, .inl (x1)), (2, .inl (x2)), (3, .inr (.inr (x3)))], [.inr (.inr (x0))], hp r1.2, 0, 0)) 1 rfl ?_
  refine T_getR rfl (fun _ => ?_)
  refine T_go (S' := (84, [(0, .inr (.inr (x0))), (1, .inl (x1)), (2, .inl (x2)), (3, .inr (.inr (x3)))], [.inl (x2), .inr (.inr ((RH x0 2)))], hp r1.2, 0, 0)) 1 rfl ?_
  refine T_if_eq 91 rfl rfl (fun _ => ?_) (fun _ => ?_)
  · refine T_go (S' := (92, [(0, .inr (.inr (x0))), (1, .inl (x1)), (2, .inl (x2)), (3, .inr (.inr (x3)))], [.inl ((1 : Int32)), .inr (.inr ((RH x0 2)))], hp r1.2, 0, 0)) 1 rfl ?_
    refine T_loc (ls' := [(0, .inr (.inr (x0))), (1, .inl (x1)), (2, .inl (x2))]) [0, 1, 2] rfl ?_
    exact s_X0_ask_92 x0 x1 x2 (RH x0 2) (1 : Int32) r1.2
  · refine T_go (S' := (92, [(0, .inr (.inr (x0))), (1, .inl (x1)), (2, .inl (x2)), (3, .inr (.inr (x3)))], [.inl ((2 : Int32)), .inr (.inr ((RH x0 2)))], hp r1.2, 0, 0)) 2 rfl ?_
    refine T_loc (ls' := [(0, .inr (.inr (x0))), (1, .inl (x1)), (2, .inl (x2))]) [0, 1, 2] rfl ?_
    exact s_X0_ask_92 x0 x1 x2 (RH x0 2) (2 : Int32) r1.2
def f_X0_ask_54 (x0 : Nat) (x1 : Int32) (x2 : Int32) (x3 : Nat) (σ : eMem) : Option (Int32 × eMem) :=
  if x3 = 0 then
    if eB (0 : Int32) = true then some ((0 : Int32), σ) else none
  else
    if (KH x3).1 = 6 then
      if (σ.1 x3 0) = x1 then
        f_X0_ask_73 x0 x1 x2 x3 σ
      else
        if (KH x0).1 = 0 then
          Option.bind (f_X0_vacate x0 x3 σ) (fun r1 =>
            f_X0_ask_73 x0 x1 x2 x3 r1.2
            )
        else none
    else none
set_option maxHeartbeats 4000000 in
set_option maxRecDepth 20000 in
theorem s_X0_ask_54 (x0 : Nat) (x1 : Int32) (x2 : Int32) (x3 : Nat) (σ : eMem) : Snd false none 3 m_X0_ask (f_X0_ask_54 x0 x1 x2 x3 σ) (cN iI) (54, [(0, .inr (.inr (x0))), (1, .inl (x1)), (2, .inl (x2)), (3, .inr (.inr (x3)))], [], hp σ, 0, 0) := by
  unfold f_X0_ask_54
  refine T_go (S' := (55, [(0, .inr (.inr (x0))), (1, .inl (x1)), (2, .inl (x2)), (3, .inr (.inr (x3)))], [.inr (.inr (x3))], hp σ, 0, 0)) 1 rfl ?_
  refine T_ifnonnull 60 rfl rfl (fun _ => ?_) (fun _ => ?_)
  · refine T_go (S' := (59, [(0, .inr (.inr (x0))), (1, .inl (x1)), (2, .inl (x2)), (3, .inr (.inr (x3)))], [.inl ((0 : Int32))], hp σ, 0, 0)) 1 rfl ?_
    exact T_chkr rfl
  · refine T_go (S' := (61, [(0, .inr (.inr (x0))), (1, .inl (x1)), (2, .inl (x2)), (3, .inr (.inr (x3)))], [.inr (.inr (x3))], hp σ, 0, 0)) 1 rfl ?_
    refine T_getI rfl (fun _ => ?_)
    refine T_go (S' := (65, [(0, .inr (.inr (x0))), (1, .inl (x1)), (2, .inl (x2)), (3, .inr (.inr (x3)))], [.inl (x1), .inl ((σ.1 x3 0))], hp σ, 0, 0)) 1 rfl ?_
    refine T_icmp_eq 73 rfl rfl (fun _ => ?_) (fun _ => ?_)
    · refine T_loc (ls' := [(0, .inr (.inr (x0))), (1, .inl (x1)), (2, .inl (x2)), (3, .inr (.inr (x3)))]) [0, 1, 2, 3] rfl ?_
      exact s_X0_ask_73 x0 x1 x2 x3 σ
    · refine T_go (S' := (70, [(0, .inr (.inr (x0))), (1, .inl (x1)), (2, .inl (x2)), (3, .inr (.inr (x3)))], [.inr (.inr (x3)), .inr (.inr (x0))], hp σ, 0, 0)) 2 rfl ?_
      refine T_cv (i := iU) (as := [.inr (.inr (x0)), .inr (.inr (x3))]) (rest := []) (st := [.inr (.inr (x3)), .inr (.inr (x0))]) rfl rfl rfl ⟨lb rfl, lb rfl, lb rfl, lb rfl⟩ (fun _ h => Ew_le (lb rfl) (s_X0_vacate x0 x3 σ _ h)) (fun _ r1 => ?_)
      show Snd false none _ _ _ (cN iI) (73, [(0, .inr (.inr (x0))), (1, .inl (x1)), (2, .inl (x2)), (3, .inr (.inr (x3)))], [], hp r1.2, 0, 0)
      refine T_loc (ls' := [(0, .inr (.inr (x0))), (1, .inl (x1)), (2, .inl (x2)), (3, .inr (.inr (x3)))]) [0, 1, 2, 3] rfl ?_
      exact s_X0_ask_73 x0 x1 x2 x3 r1.2
def f_X0_ask_45 (x0 : Nat) (x1 : Int32) (x2 : Int32) (x3 : Nat) (σ : eMem) : Option (Int32 × eMem) :=
  if x3 = 0 then
    if (KH x0).1 = 0 then
      Option.bind (f_X0_longestUnused x0 σ) (fun r1 =>
        f_X0_ask_54 x0 x1 x2 r1.1 r1.2
        )
    else none
  else
    f_X0_ask_54 x0 x1 x2 x3 σ
set_option maxHeartbeats 4000000 in
set_option maxRecDepth 20000 in
theorem s_X0_ask_45 (x0 : Nat) (x1 : Int32) (x2 : Int32) (x3 : Nat) (σ : eMem) : Snd false none 3 m_X0_ask (f_X0_ask_45 x0 x1 x2 x3 σ) (cN iI) (45, [(0, .inr (.inr (x0))), (1, .inl (x1)), (2, .inl (x2)), (3, .inr (.inr (x3)))], [], hp σ, 0, 0) := by
  unfold f_X0_ask_45
  refine T_go (S' := (46, [(0, .inr (.inr (x0))), (1, .inl (x1)), (2, .inl (x2)), (3, .inr (.inr (x3)))], [.inr (.inr (x3))], hp σ, 0, 0)) 1 rfl ?_
  refine T_ifnonnull 54 rfl rfl (fun _ => ?_) (fun _ => ?_)
  · refine T_go (S' := (50, [(0, .inr (.inr (x0))), (1, .inl (x1)), (2, .inl (x2)), (3, .inr (.inr (x3)))], [.inr (.inr (x0))], hp σ, 0, 0)) 1 rfl ?_
    refine T_cv (i := iR) (as := [.inr (.inr (x0))]) (rest := []) (st := [.inr (.inr (x0))]) rfl rfl rfl ⟨lb rfl, lb rfl, lb rfl, lb rfl⟩ (fun _ h => Ew_le (lb rfl) (s_X0_longestUnused x0 σ _ h)) (fun _ r1 => ?_)
    show Snd false none _ _ _ (cN iI) (53, [(0, .inr (.inr (x0))), (1, .inl (x1)), (2, .inl (x2)), (3, .inr (.inr (x3)))], [.inr (.inr (r1.1))], hp r1.2, 0, 0)
    refine T_go (S' := (54, [(3, .inr (.inr (r1.1))), (0, .inr (.inr (x0))), (1, .inl (x1)), (2, .inl (x2))], [], hp r1.2, 0, 0)) 1 rfl ?_
    refine T_loc (ls' := [(0, .inr (.inr (x0))), (1, .inl (x1)), (2, .inl (x2)), (3, .inr (.inr (r1.1)))]) [1, 2, 3, 0] rfl ?_
    exact s_X0_ask_54 x0 x1 x2 r1.1 r1.2
  · refine T_loc (ls' := [(0, .inr (.inr (x0))), (1, .inl (x1)), (2, .inl (x2)), (3, .inr (.inr (x3)))]) [0, 1, 2, 3] rfl ?_
    exact s_X0_ask_54 x0 x1 x2 x3 σ
def f_X0_ask_36 (x0 : Nat) (x1 : Int32) (x2 : Int32) (x3 : Nat) (σ : eMem) : Option (Int32 × eMem) :=
  if x3 = 0 then
    if (KH x0).1 = 0 then
      Option.bind (f_X0_emptyPlace x0 σ) (fun r1 =>
        f_X0_ask_45 x0 x1 x2 r1.1 r1.2
        )
    else none
  else
    f_X0_ask_45 x0 x1 x2 x3 σ
set_option maxHeartbeats 4000000 in
set_option maxRecDepth 20000 in
theorem s_X0_ask_36 (x0 : Nat) (x1 : Int32) (x2 : Int32) (x3 : Nat) (σ : eMem) : Snd false none 3 m_X0_ask (f_X0_ask_36 x0 x1 x2 x3 σ) (cN iI) (36, [(0, .inr (.inr (x0))), (1, .inl (x1)), (2, .inl (x2)), (3, .inr (.inr (x3)))], [], hp σ, 0, 0) := by
  unfold f_X0_ask_36
  refine T_go (S' := (37, [(0, .inr (.inr (x0))), (1, .inl (x1)), (2, .inl (x2)), (3, .inr (.inr (x3)))], [.inr (.inr (x3))], hp σ, 0, 0)) 1 rfl ?_
  refine T_ifnonnull 45 rfl rfl (fun _ => ?_) (fun _ => ?_)
  · refine T_go (S' := (41, [(0, .inr (.inr (x0))), (1, .inl (x1)), (2, .inl (x2)), (3, .inr (.inr (x3)))], [.inr (.inr (x0))], hp σ, 0, 0)) 1 rfl ?_
    refine T_cv (i := iR) (as := [.inr (.inr (x0))]) (rest := []) (st := [.inr (.inr (x0))]) rfl rfl rfl ⟨lb rfl, lb rfl, lb rfl, lb rfl⟩ (fun _ h => Ew_le (lb rfl) (s_X0_emptyPlace x0 σ _ h)) (fun _ r1 => ?_)
    show Snd false none _ _ _ (cN iI) (44, [(0, .inr (.inr (x0))), (1, .inl (x1)), (2, .inl (x2)), (3, .inr (.inr (x3)))], [.inr (.inr (r1.1))], hp r1.2, 0, 0)
    refine T_go (S' := (45, [(3, .inr (.inr (r1.1))), (0, .inr (.inr (x0))), (1, .inl (x1)), (2, .inl (x2))], [], hp r1.2, 0, 0)) 1 rfl ?_
    refine T_loc (ls' := [(0, .inr (.inr (x0))), (1, .inl (x1)), (2, .inl (x2)), (3, .inr (.inr (r1.1)))]) [1, 2, 3, 0] rfl ?_
    exact s_X0_ask_45 x0 x1 x2 r1.1 r1.2
  · refine T_loc (ls' := [(0, .inr (.inr (x0))), (1, .inl (x1)), (2, .inl (x2)), (3, .inr (.inr (x3)))]) [0, 1, 2, 3] rfl ?_
    exact s_X0_ask_45 x0 x1 x2 x3 σ
def f_X0_ask (x0 : Nat) (x1 : Int32) (x2 : Int32) (σ : eMem) : Option (Int32 × eMem) :=
  if (KH x0).1 = 0 then
    if (KH (RH x0 4)).1 = 11 ∧ eix x1 (KH (RH x0 4)).2 = true then
      if (σ.1 (RH x0 4) x1.toNatClampNeg) = (-1 : Int32) then
        if (KH x0).1 = 0 then
          Option.bind (f_X0_placeOf x0 x1 σ) (fun r1 =>
            if r1.1 = 0 then
              f_X0_ask_36 x0 x1 x2 r1.1 r1.2
            else
              if (KH r1.1).1 = 6 then
                if ¬ (r1.2.1 r1.1 1) = (1 : Int32) then
                  f_X0_ask_34  r1.2
                else
                  if ¬ x2 = (0 : Int32) then
                    f_X0_ask_36 x0 x1 x2 r1.1 r1.2
                  else
                    f_X0_ask_34  r1.2
              else none
            )
        else none
      else
        if eB (0 : Int32) = true then some ((0 : Int32), σ) else none
    else none
  else none
set_option maxHeartbeats 4000000 in
set_option maxRecDepth 20000 in
theorem s_X0_ask (x0 : Nat) (x1 : Int32) (x2 : Int32) (σ : eMem) : ∀ r, f_X0_ask x0 x1 x2 σ = some r → Ew false 4 15 [.inr (.inr (x0)), .inl (x1), .inl (x2)] (hp σ) (cN iI r) := by
  refine T_meth (md := m_X0_ask) (d0 := 3) (cv := (cN iI)) rfl (lb rfl) (lb rfl) ?_
  unfold f_X0_ask
  show Snd false none _ _ _ _ (0, [(0, .inr (.inr (x0))), (1, .inl (x1)), (2, .inl (x2))], [], hp σ, 0, 0)
  refine T_go (S' := (1, [(0, .inr (.inr (x0))), (1, .inl (x1)), (2, .inl (x2))], [.inr (.inr (x0))], hp σ, 0, 0)) 1 rfl ?_
  refine T_getR rfl (fun _ => ?_)
  refine T_go (S' := (5, [(0, .inr (.inr (x0))), (1, .inl (x1)), (2, .inl (x2))], [.inl (x1), .inr (.inr ((RH x0 4)))], hp σ, 0, 0)) 1 rfl ?_
  refine T_iald rfl (fun _ => ?_)
  refine T_go (S' := (7, [(0, .inr (.inr (x0))), (1, .inl (x1)), (2, .inl (x2))], [.inl ((-1 : Int32)), .inl ((σ.1 (RH x0 4) x1.toNatClampNeg))], hp σ, 0, 0)) 1 rfl ?_
  refine T_icmp_eq 12 rfl rfl (fun _ => ?_) (fun _ => ?_)
  · refine T_go (S' := (14, [(0, .inr (.inr (x0))), (1, .inl (x1)), (2, .inl (x2))], [.inl (x1), .inr (.inr (x0))], hp σ, 0, 0)) 2 rfl ?_
    refine T_cv (i := iR) (as := [.inr (.inr (x0)), .inl (x1)]) (rest := []) (st := [.inl (x1), .inr (.inr (x0))]) rfl rfl rfl ⟨lb rfl, lb rfl, lb rfl, lb rfl⟩ (fun _ h => Ew_le (lb rfl) (s_X0_placeOf x0 x1 σ _ h)) (fun _ r1 => ?_)
    show Snd false none _ _ _ (cN iI) (17, [(0, .inr (.inr (x0))), (1, .inl (x1)), (2, .inl (x2))], [.inr (.inr (r1.1))], hp r1.2, 0, 0)
    refine T_go (S' := (19, [(3, .inr (.inr (r1.1))), (0, .inr (.inr (x0))), (1, .inl (x1)), (2, .inl (x2))], [.inr (.inr (r1.1))], hp r1.2, 0, 0)) 2 rfl ?_
    refine T_ifnull 36 rfl rfl (fun _ => ?_) (fun _ => ?_)
    · refine T_loc (ls' := [(0, .inr (.inr (x0))), (1, .inl (x1)), (2, .inl (x2)), (3, .inr (.inr (r1.1)))]) [1, 2, 3, 0] rfl ?_
      exact s_X0_ask_36 x0 x1 x2 r1.1 r1.2
    · refine T_go (S' := (23, [(3, .inr (.inr (r1.1))), (0, .inr (.inr (x0))), (1, .inl (x1)), (2, .inl (x2))], [.inr (.inr (r1.1))], hp r1.2, 0, 0)) 1 rfl ?_
      refine T_getI rfl (fun _ => ?_)
      refine T_go (S' := (27, [(3, .inr (.inr (r1.1))), (0, .inr (.inr (x0))), (1, .inl (x1)), (2, .inl (x2))], [.inl ((1 : Int32)), .inl ((r1.2.1 r1.1 1))], hp r1.2, 0, 0)) 1 rfl ?_
      refine T_icmp_ne 34 rfl rfl (fun _ => ?_) (fun _ => ?_)
      · refine T_loc (ls' := []) [] rfl ?_
        exact s_X0_ask_34  r1.2
      · refine T_go (S' := (31, [(3, .inr (.inr (r1.1))), (0, .inr (.inr (x0))), (1, .inl (x1)), (2, .inl (x2))], [.inl (x2)], hp r1.2, 0, 0)) 1 rfl ?_
        refine T_if_ne 36 rfl rfl (fun _ => ?_) (fun _ => ?_)
        · refine T_loc (ls' := [(0, .inr (.inr (x0))), (1, .inl (x1)), (2, .inl (x2)), (3, .inr (.inr (r1.1)))]) [1, 2, 3, 0] rfl ?_
          exact s_X0_ask_36 x0 x1 x2 r1.1 r1.2
        · refine T_loc (ls' := []) [] rfl ?_
          exact s_X0_ask_34  r1.2
  · refine T_go (S' := (11, [(0, .inr (.inr (x0))), (1, .inl (x1)), (2, .inl (x2))], [.inl ((0 : Int32))], hp σ, 0, 0)) 1 rfl ?_
    exact T_chkr rfl
def f_X0_learnStride_68  (σ : eMem) : Option (Unit × eMem) :=
  some ((), σ)
set_option maxHeartbeats 4000000 in
set_option maxRecDepth 20000 in
theorem s_X0_learnStride_68  (σ : eMem) : Snd false none 4 m_X0_learnStride (f_X0_learnStride_68 σ) (cN iU) (68, [], [], hp σ, 0, 0) := by
  unfold f_X0_learnStride_68
  exact T_ret rfl
def f_X0_learnStride_106  (σ : eMem) : Option (Unit × eMem) :=
  some ((), σ)
set_option maxHeartbeats 4000000 in
set_option maxRecDepth 20000 in
theorem s_X0_learnStride_106  (σ : eMem) : Snd false none 4 m_X0_learnStride (f_X0_learnStride_106 σ) (cN iU) (106, [], [], hp σ, 0, 0) := by
  unfold f_X0_learnStride_106
  exact T_ret rfl
def f_X0_learnStride_36 (x0 : Nat) (x1 : Int32) (x2 : Int32) (s0 : Int32) (σ : eMem) : Option (Unit × eMem) :=
  if (KH x0).1 = 0 then eLet ((eup σ.1 x0 10 x1, σ.2) : eMem) (fun σ1 =>
    if (KH x0).1 = 0 then eLet ((eup σ1.1 x0 11 x2, σ1.2) : eMem) (fun σ2 =>
      eLet ((x1 + x2) : Int32) (fun v3 =>
        if s0 = (0 : Int32) then
          f_X0_learnStride_68  σ2
        else
          if v3 < (0 : Int32) then
            f_X0_learnStride_68  σ2
          else
            if v3 < (16 : Int32) then
              if (KH x0).1 = 0 then
                Option.bind (f_X0_placeOf x0 v3 σ2) (fun r4 =>
                  if r4.1 = 0 then
                    if (KH x0).1 = 0 then
                      Option.bind (f_X0_emptyPlace x0 r4.2) (fun r5 =>
                        if r5.1 = 0 then
                          f_X0_learnStride_106  r5.2
                        else
                          if (KH x0).1 = 0 then
                            Option.bind (f_X0_ask x0 v3 (0 : Int32) r5.2) (fun r6 =>
                              if r6.1 = (0 : Int32) then
                                f_X0_learnStride_106  r6.2
                              else
                                if (KH x0).1 = 0 then
                                  if (KH (RH x0 2)).1 = 11 ∧ eix (6 : Int32) (KH (RH x0 2)).2 = true then
                                    if (KH (RH x0 2)).1 = 11 ∧ eix (6 : Int32) (KH (RH x0 2)).2 = true then eLet ((eup r6.2.1 (RH x0 2) (6 : Int32).toNatClampNeg ((r6.2.1 (RH x0 2) (6 : Int32).toNatClampNeg) + (1 : Int32)), r6.2.2) : eMem) (fun σ7 =>
                                      f_X0_learnStride_106  σ7
                                      ) else none
                                  else none
                                else none
                              )
                          else none
                        )
                    else none
                  else
                    f_X0_learnStride_106  r4.2
                  )
              else none
            else
              f_X0_learnStride_68  σ2
        )
      ) else none
    ) else none
set_option maxHeartbeats 4000000 in
set_option maxRecDepth 20000 in
theorem s_X0_learnStride_36 (x0 : Nat) (x1 : Int32) (x2 : Int32) (s0 : Int32) (σ : eMem) : Snd false none 4 m_X0_learnStride (f_X0_learnStride_36 x0 x1 x2 s0 σ) (cN iU) (36, [(0, .inr (.inr (x0))), (1, .inl (x1)), (2, .inl (x2))], [.inl (s0)], hp σ, 0, 0) := by
  unfold f_X0_learnStride_36
  refine T_go (S' := (39, [(3, .inl (s0)), (0, .inr (.inr (x0))), (1, .inl (x1)), (2, .inl (x2))], [.inl (x1), .inr (.inr (x0))], hp σ, 0, 0)) 3 rfl ?_
  refine T_putI rfl (fun _ => ?_)
  refine T_let (Sf := fun σ1 => (42, [(3, .inl (s0)), (0, .inr (.inr (x0))), (1, .inl (x1)), (2, .inl (x2))], [], hp σ1, 0, 0)) (fun σ1 => ?_)
  refine T_go (S' := (44, [(3, .inl (s0)), (0, .inr (.inr (x0))), (1, .inl (x1)), (2, .inl (x2))], [.inl (x2), .inr (.inr (x0))], hp σ1, 0, 0)) 2 rfl ?_
  refine T_putI rfl (fun _ => ?_)
  refine T_let (Sf := fun σ2 => (47, [(3, .inl (s0)), (0, .inr (.inr (x0))), (1, .inl (x1)), (2, .inl (x2))], [], hp σ2, 0, 0)) (fun σ2 => ?_)
  refine T_go (S' := (52, [(4, .inl ((x1 + x2))), (3, .inl (s0)), (0, .inr (.inr (x0))), (1, .inl (x1)), (2, .inl (x2))], [], hp σ2, 0, 0)) 4 rfl ?_
  refine T_let (Sf := fun v3 => (52, [(4, .inl (v3)), (3, .inl (s0)), (0, .inr (.inr (x0))), (1, .inl (x1)), (2, .inl (x2))], [], hp σ2, 0, 0)) (fun v3 => ?_)
  refine T_go (S' := (53, [(4, .inl (v3)), (3, .inl (s0)), (0, .inr (.inr (x0))), (1, .inl (x1)), (2, .inl (x2))], [.inl (s0)], hp σ2, 0, 0)) 1 rfl ?_
  refine T_if_eq 68 rfl rfl (fun _ => ?_) (fun _ => ?_)
  · refine T_loc (ls' := []) [] rfl ?_
    exact s_X0_learnStride_68  σ2
  · refine T_go (S' := (58, [(4, .inl (v3)), (3, .inl (s0)), (0, .inr (.inr (x0))), (1, .inl (x1)), (2, .inl (x2))], [.inl (v3)], hp σ2, 0, 0)) 1 rfl ?_
    refine T_if_lt 68 rfl rfl (fun _ => ?_) (fun _ => ?_)
    · refine T_loc (ls' := []) [] rfl ?_
      exact s_X0_learnStride_68  σ2
    · refine T_go (S' := (65, [(4, .inl (v3)), (3, .inl (s0)), (0, .inr (.inr (x0))), (1, .inl (x1)), (2, .inl (x2))], [.inl ((16 : Int32)), .inl (v3)], hp σ2, 0, 0)) 2 rfl ?_
      refine T_icmp_lt 69 rfl rfl (fun _ => ?_) (fun _ => ?_)
      · refine T_go (S' := (72, [(4, .inl (v3)), (3, .inl (s0)), (0, .inr (.inr (x0))), (1, .inl (x1)), (2, .inl (x2))], [.inl (v3), .inr (.inr (x0))], hp σ2, 0, 0)) 2 rfl ?_
        refine T_cv (i := iR) (as := [.inr (.inr (x0)), .inl (v3)]) (rest := []) (st := [.inl (v3), .inr (.inr (x0))]) rfl rfl rfl ⟨lb rfl, lb rfl, lb rfl, lb rfl⟩ (fun _ h => Ew_le (lb rfl) (s_X0_placeOf x0 v3 σ2 _ h)) (fun _ r4 => ?_)
        show Snd false none _ _ _ (cN iU) (75, [(4, .inl (v3)), (3, .inl (s0)), (0, .inr (.inr (x0))), (1, .inl (x1)), (2, .inl (x2))], [.inr (.inr (r4.1))], hp r4.2, 0, 0)
        refine T_ifnonnull 106 rfl rfl (fun _ => ?_) (fun _ => ?_)
        · refine T_go (S' := (79, [(4, .inl (v3)), (3, .inl (s0)), (0, .inr (.inr (x0))), (1, .inl (x1)), (2, .inl (x2))], [.inr (.inr (x0))], hp r4.2, 0, 0)) 1 rfl ?_
          refine T_cv (i := iR) (as := [.inr (.inr (x0))]) (rest := []) (st := [.inr (.inr (x0))]) rfl rfl rfl ⟨lb rfl, lb rfl, lb rfl, lb rfl⟩ (fun _ h => Ew_le (lb rfl) (s_X0_emptyPlace x0 r4.2 _ h)) (fun _ r5 => ?_)
          show Snd false none _ _ _ (cN iU) (82, [(4, .inl (v3)), (3, .inl (s0)), (0, .inr (.inr (x0))), (1, .inl (x1)), (2, .inl (x2))], [.inr (.inr (r5.1))], hp r5.2, 0, 0)
          refine T_ifnull 106 rfl rfl (fun _ => ?_) (fun _ => ?_)
          · refine T_loc (ls' := []) [] rfl ?_
            exact s_X0_learnStride_106  r5.2
          · refine T_go (S' := (89, [(4, .inl (v3)), (3, .inl (s0)), (0, .inr (.inr (x0))), (1, .inl (x1)), (2, .inl (x2))], [.inl ((0 : Int32)), .inl (v3), .inr (.inr (x0))], hp r5.2, 0, 0)) 3 rfl ?_
            refine T_cv (i := iI) (as := [.inr (.inr (x0)), .inl (v3), .inl ((0 : Int32))]) (rest := []) (st := [.inl ((0 : Int32)), .inl (v3), .inr (.inr (x0))]) rfl rfl rfl ⟨lb rfl, lb rfl, lb rfl, lb rfl⟩ (fun _ h => Ew_le (lb rfl) (s_X0_ask x0 v3 (0 : Int32) r5.2 _ h)) (fun _ r6 => ?_)
            show Snd false none _ _ _ (cN iU) (92, [(4, .inl (v3)), (3, .inl (s0)), (0, .inr (.inr (x0))), (1, .inl (x1)), (2, .inl (x2))], [.inl (r6.1)], hp r6.2, 0, 0)
            refine T_if_eq 106 rfl rfl (fun _ => ?_) (fun _ => ?_)
            · refine T_loc (ls' := []) [] rfl ?_
              exact s_X0_learnStride_106  r6.2
            · refine T_go (S' := (96, [(4, .inl (v3)), (3, .inl (s0)), (0, .inr (.inr (x0))), (1, .inl (x1)), (2, .inl (x2))], [.inr (.inr (x0))], hp r6.2, 0, 0)) 1 rfl ?_
              refine T_getR rfl (fun _ => ?_)
              refine T_go (S' := (102, [(4, .inl (v3)), (3, .inl (s0)), (0, .inr (.inr (x0))), (1, .inl (x1)), (2, .inl (x2))], [.inl ((6 : Int32)), .inr (.inr ((RH x0 2))), .inl ((6 : Int32)), .inr (.inr ((RH x0 2)))], hp r6.2, 0, 0)) 2 rfl ?_
              refine T_iald rfl (fun _ => ?_)
              refine T_go (S' := (105, [(4, .inl (v3)), (3, .inl (s0)), (0, .inr (.inr (x0))), (1, .inl (x1)), (2, .inl (x2))], [.inl (((r6.2.1 (RH x0 2) (6 : Int32).toNatClampNeg) + (1 : Int32))), .inl ((6 : Int32)), .inr (.inr ((RH x0 2)))], hp r6.2, 0, 0)) 2 rfl ?_
              refine T_iast rfl (fun _ => ?_)
              refine T_let (Sf := fun σ7 => (106, [(4, .inl (v3)), (3, .inl (s0)), (0, .inr (.inr (x0))), (1, .inl (x1)), (2, .inl (x2))], [], hp σ7, 0, 0)) (fun σ7 => ?_)
              refine T_loc (ls' := []) [] rfl ?_
              exact s_X0_learnStride_106  σ7
        · refine T_loc (ls' := []) [] rfl ?_
          exact s_X0_learnStride_106  r4.2
      · refine T_loc (ls' := []) [] rfl ?_
        exact s_X0_learnStride_68  σ2
def f_X0_learnStride_35 (x0 : Nat) (x1 : Int32) (x2 : Int32) (σ : eMem) : Option (Unit × eMem) :=
  f_X0_learnStride_36 x0 x1 x2 (0 : Int32) σ
set_option maxHeartbeats 4000000 in
set_option maxRecDepth 20000 in
theorem s_X0_learnStride_35 (x0 : Nat) (x1 : Int32) (x2 : Int32) (σ : eMem) : Snd false none 4 m_X0_learnStride (f_X0_learnStride_35 x0 x1 x2 σ) (cN iU) (35, [(0, .inr (.inr (x0))), (1, .inl (x1)), (2, .inl (x2))], [], hp σ, 0, 0) := by
  unfold f_X0_learnStride_35
  refine T_go (S' := (36, [(0, .inr (.inr (x0))), (1, .inl (x1)), (2, .inl (x2))], [.inl ((0 : Int32))], hp σ, 0, 0)) 1 rfl ?_
  refine T_loc (ls' := [(0, .inr (.inr (x0))), (1, .inl (x1)), (2, .inl (x2))]) [0, 1, 2] rfl ?_
  exact s_X0_learnStride_36 x0 x1 x2 (0 : Int32) σ
def f_X0_learnStride_18 (x0 : Nat) (x1 : Int32) (s0 : Int32) (σ : eMem) : Option (Unit × eMem) :=
  if s0 = (0 : Int32) then
    f_X0_learnStride_35 x0 x1 s0 σ
  else
    if (KH x0).1 = 0 then
      if ¬ s0 = (σ.1 x0 11) then
        f_X0_learnStride_35 x0 x1 s0 σ
      else
        f_X0_learnStride_36 x0 x1 s0 (1 : Int32) σ
    else none
set_option maxHeartbeats 4000000 in
set_option maxRecDepth 20000 in
theorem s_X0_learnStride_18 (x0 : Nat) (x1 : Int32) (s0 : Int32) (σ : eMem) : Snd false none 4 m_X0_learnStride (f_X0_learnStride_18 x0 x1 s0 σ) (cN iU) (18, [(0, .inr (.inr (x0))), (1, .inl (x1))], [.inl (s0)], hp σ, 0, 0) := by
  unfold f_X0_learnStride_18
  refine T_go (S' := (20, [(2, .inl (s0)), (0, .inr (.inr (x0))), (1, .inl (x1))], [.inl (s0)], hp σ, 0, 0)) 2 rfl ?_
  refine T_if_eq 35 rfl rfl (fun _ => ?_) (fun _ => ?_)
  · refine T_loc (ls' := [(0, .inr (.inr (x0))), (1, .inl (x1)), (2, .inl (s0))]) [1, 2, 0] rfl ?_
    exact s_X0_learnStride_35 x0 x1 s0 σ
  · refine T_go (S' := (25, [(2, .inl (s0)), (0, .inr (.inr (x0))), (1, .inl (x1))], [.inr (.inr (x0)), .inl (s0)], hp σ, 0, 0)) 2 rfl ?_
    refine T_getI rfl (fun _ => ?_)
    refine T_icmp_ne 35 rfl rfl (fun _ => ?_) (fun _ => ?_)
    · refine T_loc (ls' := [(0, .inr (.inr (x0))), (1, .inl (x1)), (2, .inl (s0))]) [1, 2, 0] rfl ?_
      exact s_X0_learnStride_35 x0 x1 s0 σ
    · refine T_go (S' := (36, [(2, .inl (s0)), (0, .inr (.inr (x0))), (1, .inl (x1))], [.inl ((1 : Int32))], hp σ, 0, 0)) 2 rfl ?_
      refine T_loc (ls' := [(0, .inr (.inr (x0))), (1, .inl (x1)), (2, .inl (s0))]) [1, 2, 0] rfl ?_
      exact s_X0_learnStride_36 x0 x1 s0 (1 : Int32) σ
def f_X0_learnStride (x0 : Nat) (x1 : Int32) (σ : eMem) : Option (Unit × eMem) :=
  if (KH x0).1 = 0 then
    if ¬ (σ.1 x0 10) = (-1 : Int32) then
      if (KH x0).1 = 0 then
        f_X0_learnStride_18 x0 x1 (x1 - (σ.1 x0 10)) σ
      else none
    else
      f_X0_learnStride_18 x0 x1 (0 : Int32) σ
  else none
set_option maxHeartbeats 4000000 in
set_option maxRecDepth 20000 in
theorem s_X0_learnStride (x0 : Nat) (x1 : Int32) (σ : eMem) : ∀ r, f_X0_learnStride x0 x1 σ = some r → Ew false 5 10 [.inr (.inr (x0)), .inl (x1)] (hp σ) (cN iU r) := by
  refine T_meth (md := m_X0_learnStride) (d0 := 4) (cv := (cN iU)) rfl (lb rfl) (lb rfl) ?_
  unfold f_X0_learnStride
  show Snd false none _ _ _ _ (0, [(0, .inr (.inr (x0))), (1, .inl (x1))], [], hp σ, 0, 0)
  refine T_go (S' := (1, [(0, .inr (.inr (x0))), (1, .inl (x1))], [.inr (.inr (x0))], hp σ, 0, 0)) 1 rfl ?_
  refine T_getI rfl (fun _ => ?_)
  refine T_go (S' := (5, [(0, .inr (.inr (x0))), (1, .inl (x1))], [.inl ((-1 : Int32)), .inl ((σ.1 x0 10))], hp σ, 0, 0)) 1 rfl ?_
  refine T_icmp_ne 12 rfl rfl (fun _ => ?_) (fun _ => ?_)
  · refine T_go (S' := (14, [(0, .inr (.inr (x0))), (1, .inl (x1))], [.inr (.inr (x0)), .inl (x1)], hp σ, 0, 0)) 2 rfl ?_
    refine T_getI rfl (fun _ => ?_)
    refine T_go (S' := (18, [(0, .inr (.inr (x0))), (1, .inl (x1))], [.inl ((x1 - (σ.1 x0 10)))], hp σ, 0, 0)) 1 rfl ?_
    refine T_loc (ls' := [(0, .inr (.inr (x0))), (1, .inl (x1))]) [0, 1] rfl ?_
    exact s_X0_learnStride_18 x0 x1 (x1 - (σ.1 x0 10)) σ
  · refine T_go (S' := (18, [(0, .inr (.inr (x0))), (1, .inl (x1))], [.inl ((0 : Int32))], hp σ, 0, 0)) 2 rfl ?_
    refine T_loc (ls' := [(0, .inr (.inr (x0))), (1, .inl (x1))]) [0, 1] rfl ?_
    exact s_X0_learnStride_18 x0 x1 (0 : Int32) σ
def f_X0_use (x0 : Nat) (x1 : Nat) (σ : eMem) : Option (Unit × eMem) :=
  if (KH x0).1 = 0 then
    if (KH x0).1 = 0 then eLet ((eup σ.1 x0 9 ((σ.1 x0 9) + (1 : Int32)), σ.2) : eMem) (fun σ1 =>
      if (KH x0).1 = 0 then
        if (KH x1).1 = 6 then eLet ((eup σ1.1 x1 3 (σ1.1 x0 9), σ1.2) : eMem) (fun σ2 =>
          some ((), σ2)
          ) else none
      else none
      ) else none
  else none
set_option maxHeartbeats 4000000 in
set_option maxRecDepth 20000 in
theorem s_X0_use (x0 : Nat) (x1 : Nat) (σ : eMem) : ∀ r, f_X0_use x0 x1 σ = some r → Ew false 1 13 [.inr (.inr (x0)), .inr (.inr (x1))] (hp σ) (cN iU r) := by
  refine T_meth (md := m_X0_use) (d0 := 0) (cv := (cN iU)) rfl (lb rfl) (lb rfl) ?_
  unfold f_X0_use
  show Snd false none _ _ _ _ (0, [(0, .inr (.inr (x0))), (1, .inr (.inr (x1)))], [], hp σ, 0, 0)
  refine T_go (S' := (2, [(0, .inr (.inr (x0))), (1, .inr (.inr (x1)))], [.inr (.inr (x0)), .inr (.inr (x0))], hp σ, 0, 0)) 2 rfl ?_
  refine T_getI rfl (fun _ => ?_)
  refine T_go (S' := (7, [(0, .inr (.inr (x0))), (1, .inr (.inr (x1)))], [.inl (((σ.1 x0 9) + (1 : Int32))), .inr (.inr (x0))], hp σ, 0, 0)) 2 rfl ?_
  refine T_putI rfl (fun _ => ?_)
  refine T_let (Sf := fun σ1 => (10, [(0, .inr (.inr (x0))), (1, .inr (.inr (x1)))], [], hp σ1, 0, 0)) (fun σ1 => ?_)
  refine T_go (S' := (12, [(0, .inr (.inr (x0))), (1, .inr (.inr (x1)))], [.inr (.inr (x0)), .inr (.inr (x1))], hp σ1, 0, 0)) 2 rfl ?_
  refine T_getI rfl (fun _ => ?_)
  refine T_putI rfl (fun _ => ?_)
  refine T_let (Sf := fun σ2 => (18, [(0, .inr (.inr (x0))), (1, .inr (.inr (x1)))], [], hp σ2, 0, 0)) (fun σ2 => ?_)
  exact T_ret rfl
def f_X10_include_26  (σ : eMem) : Option (Unit × eMem) :=
  some ((), σ)
set_option maxHeartbeats 4000000 in
set_option maxRecDepth 20000 in
theorem s_X10_include_26  (σ : eMem) : Snd false none 0 m_X10_include (f_X10_include_26 σ) (cN iU) (26, [], [], hp σ, 0, 0) := by
  unfold f_X10_include_26
  exact T_ret rfl
def f_X10_include (x0 : Nat) (x1 : Int32) (σ : eMem) : Option (Unit × eMem) :=
  if (KH x0).1 = 8 then
    if (KH (RH x0 5)).1 = 13 ∧ eix x1 (KH (RH x0 5)).2 = true then
      if ¬ (σ.1 (RH x0 5) x1.toNatClampNeg) = (0 : Int32) then
        f_X10_include_26  σ
      else
        if (KH x0).1 = 8 then
          if (KH (RH x0 5)).1 = 13 ∧ eix x1 (KH (RH x0 5)).2 = true ∧ eB (1 : Int32) = true then eLet ((eup σ.1 (RH x0 5) x1.toNatClampNeg (1 : Int32), σ.2) : eMem) (fun σ1 =>
            if (KH x0).1 = 8 then
              if (KH x0).1 = 8 then eLet ((eup σ1.1 x0 3 ((σ1.1 x0 3) + (1 : Int32)), σ1.2) : eMem) (fun σ2 =>
                f_X10_include_26  σ2
                ) else none
            else none
            ) else none
        else none
    else none
  else none
set_option maxHeartbeats 4000000 in
set_option maxRecDepth 20000 in
theorem s_X10_include (x0 : Nat) (x1 : Int32) (σ : eMem) : ∀ r, f_X10_include x0 x1 σ = some r → Ew false 1 93 [.inr (.inr (x0)), .inl (x1)] (hp σ) (cN iU r) := by
  refine T_meth (md := m_X10_include) (d0 := 0) (cv := (cN iU)) rfl (lb rfl) (lb rfl) ?_
  unfold f_X10_include
  show Snd false none _ _ _ _ (0, [(0, .inr (.inr (x0))), (1, .inl (x1))], [], hp σ, 0, 0)
  refine T_go (S' := (1, [(0, .inr (.inr (x0))), (1, .inl (x1))], [.inr (.inr (x0))], hp σ, 0, 0)) 1 rfl ?_
  refine T_getR rfl (fun _ => ?_)
  refine T_go (S' := (5, [(0, .inr (.inr (x0))), (1, .inl (x1))], [.inl (x1), .inr (.inr ((RH x0 5)))], hp σ, 0, 0)) 1 rfl ?_
  refine T_bald rfl (fun _ => ?_)
  refine T_if_ne 26 rfl rfl (fun _ => ?_) (fun _ => ?_)
  · refine T_loc (ls' := []) [] rfl ?_
    exact s_X10_include_26  σ
  · refine T_go (S' := (10, [(0, .inr (.inr (x0))), (1, .inl (x1))], [.inr (.inr (x0))], hp σ, 0, 0)) 1 rfl ?_
    refine T_getR rfl (fun _ => ?_)
    refine T_go (S' := (15, [(0, .inr (.inr (x0))), (1, .inl (x1))], [.inl ((1 : Int32)), .inl (x1), .inr (.inr ((RH x0 5)))], hp σ, 0, 0)) 2 rfl ?_
    refine T_bast rfl (fun _ => ?_)
    refine T_let (Sf := fun σ1 => (16, [(0, .inr (.inr (x0))), (1, .inl (x1))], [], hp σ1, 0, 0)) (fun σ1 => ?_)
    refine T_go (S' := (18, [(0, .inr (.inr (x0))), (1, .inl (x1))], [.inr (.inr (x0)), .inr (.inr (x0))], hp σ1, 0, 0)) 2 rfl ?_
    refine T_getI rfl (fun _ => ?_)
    refine T_go (S' := (23, [(0, .inr (.inr (x0))), (1, .inl (x1))], [.inl (((σ1.1 x0 3) + (1 : Int32))), .inr (.inr (x0))], hp σ1, 0, 0)) 2 rfl ?_
    refine T_putI rfl (fun _ => ?_)
    refine T_let (Sf := fun σ2 => (26, [(0, .inr (.inr (x0))), (1, .inl (x1))], [], hp σ2, 0, 0)) (fun σ2 => ?_)
    refine T_loc (ls' := []) [] rfl ?_
    exact s_X10_include_26  σ2
