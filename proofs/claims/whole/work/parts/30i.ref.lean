/-! what the methods do -/
def f_X12_outcome_59 (s0 : Int32) (σ : eMem) : Option (Int32 × eMem) :=
  some (s0, σ)
set_option maxHeartbeats 4000000 in
set_option maxRecDepth 20000 in
theorem s_X12_outcome_59 (s0 : Int32) (σ : eMem) : Snd false none 4 m_X12_outcome (f_X12_outcome_59 s0 σ) (cN iI) (59, [], [.inl (s0)], hp σ, 0, 0) := by
  unfold f_X12_outcome_59
  exact T_ret rfl
def f_X12_outcome_43 (x0 : Nat) (x2 : Int32) (s0 : Nat) (s1 : Int32) (σ : eMem) : Option (Int32 × eMem) :=
  if (KH s0).1 = 10 then
    Option.bind (f_X12_asks s0 s1 σ) (fun r1 =>
      if r1.1 = (0 : Int32) then
        f_X12_outcome_59 (0 : Int32) r1.2
      else
        if (KH x0).1 = 10 then
          if (KH (RH x0 41)).1 = 11 ∧ eix x2 (KH (RH x0 41)).2 = true then
            f_X12_outcome_59 (r1.2.1 (RH x0 41) x2.toNatClampNeg) r1.2
          else none
        else none
      )
  else none
set_option maxHeartbeats 4000000 in
set_option maxRecDepth 20000 in
theorem s_X12_outcome_43 (x0 : Nat) (x2 : Int32) (s0 : Nat) (s1 : Int32) (σ : eMem) : Snd false none 4 m_X12_outcome (f_X12_outcome_43 x0 x2 s0 s1 σ) (cN iI) (43, [(0, .inr (.inr (x0))), (2, .inl (x2))], [.inl (s1), .inr (.inr (s0))], hp σ, 0, 0) := by
  unfold f_X12_outcome_43
  refine T_cv (i := iI) (as := [.inr (.inr (s0)), .inl (s1)]) (rest := []) (st := [.inl (s1), .inr (.inr (s0))]) rfl rfl rfl ⟨lb rfl, lb rfl, lb rfl, lb rfl⟩ (fun _ h => Ew_le (lb rfl) (s_X12_asks s0 s1 σ _ h)) (fun _ r1 => ?_)
  show Snd false none _ _ _ (cN iI) (46, [(0, .inr (.inr (x0))), (2, .inl (x2))], [.inl (r1.1)], hp r1.2, 0, 0)
  refine T_if_eq 58 rfl rfl (fun _ => ?_) (fun _ => ?_)
  · refine T_go (S' := (59, [(0, .inr (.inr (x0))), (2, .inl (x2))], [.inl ((0 : Int32))], hp r1.2, 0, 0)) 1 rfl ?_
    refine T_loc (ls' := []) [] rfl ?_
    exact s_X12_outcome_59 (0 : Int32) r1.2
  · refine T_go (S' := (50, [(0, .inr (.inr (x0))), (2, .inl (x2))], [.inr (.inr (x0))], hp r1.2, 0, 0)) 1 rfl ?_
    refine T_getR rfl (fun _ => ?_)
    refine T_go (S' := (54, [(0, .inr (.inr (x0))), (2, .inl (x2))], [.inl (x2), .inr (.inr ((RH x0 41)))], hp r1.2, 0, 0)) 1 rfl ?_
    refine T_iald rfl (fun _ => ?_)
    refine T_go (S' := (59, [(0, .inr (.inr (x0))), (2, .inl (x2))], [.inl ((r1.2.1 (RH x0 41) x2.toNatClampNeg))], hp r1.2, 0, 0)) 1 rfl ?_
    refine T_loc (ls' := []) [] rfl ?_
    exact s_X12_outcome_59 (r1.2.1 (RH x0 41) x2.toNatClampNeg) r1.2
def f_X12_outcome_42 (x0 : Nat) (x2 : Int32) (s0 : Nat) (σ : eMem) : Option (Int32 × eMem) :=
  f_X12_outcome_43 x0 x2 s0 (0 : Int32) σ
set_option maxHeartbeats 4000000 in
set_option maxRecDepth 20000 in
theorem s_X12_outcome_42 (x0 : Nat) (x2 : Int32) (s0 : Nat) (σ : eMem) : Snd false none 4 m_X12_outcome (f_X12_outcome_42 x0 x2 s0 σ) (cN iI) (42, [(0, .inr (.inr (x0))), (2, .inl (x2))], [.inr (.inr (s0))], hp σ, 0, 0) := by
  unfold f_X12_outcome_42
  refine T_go (S' := (43, [(0, .inr (.inr (x0))), (2, .inl (x2))], [.inl ((0 : Int32)), .inr (.inr (s0))], hp σ, 0, 0)) 1 rfl ?_
  refine T_loc (ls' := [(0, .inr (.inr (x0))), (2, .inl (x2))]) [0, 1] rfl ?_
  exact s_X12_outcome_43 x0 x2 s0 (0 : Int32) σ
def f_X12_outcome_32 (x0 : Nat) (x2 : Int32) (s0 : Nat) (s1 : Int32) (s2 : Nat) (s3 : Int32) (σ : eMem) : Option (Int32 × eMem) :=
  if (KH s2).1 = 10 then
    Option.bind (f_X12_goesThrough s2 s3 σ) (fun r1 =>
      if r1.1 ≤ s1 then
        f_X12_outcome_42 x0 x2 s0 r1.2
      else
        f_X12_outcome_43 x0 x2 s0 (1 : Int32) r1.2
      )
  else none
set_option maxHeartbeats 4000000 in
set_option maxRecDepth 20000 in
theorem s_X12_outcome_32 (x0 : Nat) (x2 : Int32) (s0 : Nat) (s1 : Int32) (s2 : Nat) (s3 : Int32) (σ : eMem) : Snd false none 4 m_X12_outcome (f_X12_outcome_32 x0 x2 s0 s1 s2 s3 σ) (cN iI) (32, [(0, .inr (.inr (x0))), (2, .inl (x2))], [.inl (s3), .inr (.inr (s2)), .inl (s1), .inr (.inr (s0))], hp σ, 0, 0) := by
  unfold f_X12_outcome_32
  refine T_cv (i := iI) (as := [.inr (.inr (s2)), .inl (s3)]) (rest := [.inl (s1), .inr (.inr (s0))]) (st := [.inl (s3), .inr (.inr (s2)), .inl (s1), .inr (.inr (s0))]) rfl rfl rfl ⟨lb rfl, lb rfl, lb rfl, lb rfl⟩ (fun _ h => Ew_le (lb rfl) (s_X12_goesThrough s2 s3 σ _ h)) (fun _ r1 => ?_)
  show Snd false none _ _ _ (cN iI) (35, [(0, .inr (.inr (x0))), (2, .inl (x2))], [.inl (r1.1), .inl (s1), .inr (.inr (s0))], hp r1.2, 0, 0)
  refine T_icmp_ge 42 rfl rfl (fun _ => ?_) (fun _ => ?_)
  · refine T_loc (ls' := [(0, .inr (.inr (x0))), (2, .inl (x2))]) [0, 1] rfl ?_
    exact s_X12_outcome_42 x0 x2 s0 r1.2
  · refine T_go (S' := (43, [(0, .inr (.inr (x0))), (2, .inl (x2))], [.inl ((1 : Int32)), .inr (.inr (s0))], hp r1.2, 0, 0)) 2 rfl ?_
    refine T_loc (ls' := [(0, .inr (.inr (x0))), (2, .inl (x2))]) [0, 1] rfl ?_
    exact s_X12_outcome_43 x0 x2 s0 (1 : Int32) r1.2
def f_X12_outcome_15 (x0 : Nat) (x1 : Int32) (x2 : Int32) (σ : eMem) : Option (Int32 × eMem) :=
  if x2 < (0 : Int32) then
    f_X12_outcome_42 x0 x2 x0 σ
  else
    if ¬ x1 = (1 : Int32) then
      f_X12_outcome_32 x0 x2 x0 x2 x0 (0 : Int32) σ
    else
      f_X12_outcome_32 x0 x2 x0 x2 x0 (1 : Int32) σ
set_option maxHeartbeats 4000000 in
set_option maxRecDepth 20000 in
theorem s_X12_outcome_15 (x0 : Nat) (x1 : Int32) (x2 : Int32) (σ : eMem) : Snd false none 4 m_X12_outcome (f_X12_outcome_15 x0 x1 x2 σ) (cN iI) (15, [(0, .inr (.inr (x0))), (1, .inl (x1)), (2, .inl (x2))], [], hp σ, 0, 0) := by
  unfold f_X12_outcome_15
  refine T_go (S' := (17, [(0, .inr (.inr (x0))), (1, .inl (x1)), (2, .inl (x2))], [.inl (x2), .inr (.inr (x0))], hp σ, 0, 0)) 2 rfl ?_
  refine T_if_lt 42 rfl rfl (fun _ => ?_) (fun _ => ?_)
  · refine T_loc (ls' := [(0, .inr (.inr (x0))), (2, .inl (x2))]) [0, 2] rfl ?_
    exact s_X12_outcome_42 x0 x2 x0 σ
  · refine T_go (S' := (24, [(0, .inr (.inr (x0))), (1, .inl (x1)), (2, .inl (x2))], [.inl ((1 : Int32)), .inl (x1), .inr (.inr (x0)), .inl (x2), .inr (.inr (x0))], hp σ, 0, 0)) 4 rfl ?_
    refine T_icmp_ne 31 rfl rfl (fun _ => ?_) (fun _ => ?_)
    · refine T_go (S' := (32, [(0, .inr (.inr (x0))), (1, .inl (x1)), (2, .inl (x2))], [.inl ((0 : Int32)), .inr (.inr (x0)), .inl (x2), .inr (.inr (x0))], hp σ, 0, 0)) 1 rfl ?_
      refine T_loc (ls' := [(0, .inr (.inr (x0))), (2, .inl (x2))]) [0, 2] rfl ?_
      exact s_X12_outcome_32 x0 x2 x0 x2 x0 (0 : Int32) σ
    · refine T_go (S' := (32, [(0, .inr (.inr (x0))), (1, .inl (x1)), (2, .inl (x2))], [.inl ((1 : Int32)), .inr (.inr (x0)), .inl (x2), .inr (.inr (x0))], hp σ, 0, 0)) 2 rfl ?_
      refine T_loc (ls' := [(0, .inr (.inr (x0))), (2, .inl (x2))]) [0, 2] rfl ?_
      exact s_X12_outcome_32 x0 x2 x0 x2 x0 (1 : Int32) σ
def f_X12_outcome (x0 : Nat) (x1 : Int32) (x2 : Int32) (σ : eMem) : Option (Int32 × eMem) :=
  if x1 = (0 : Int32) then
    f_X12_outcome_15 x0 x1 x2 σ
  else
    if x1 = (1 : Int32) then
      f_X12_outcome_15 x0 x1 x2 σ
    else
      if (KH x0).1 = 10 then
        Option.bind (f_X12_fails x0 (2 : Int32) σ) (fun r1 =>
          some (r1.1, r1.2)
          )
      else none
set_option maxHeartbeats 4000000 in
set_option maxRecDepth 20000 in
theorem s_X12_outcome (x0 : Nat) (x1 : Int32) (x2 : Int32) (σ : eMem) : ∀ r, f_X12_outcome x0 x1 x2 σ = some r → Ew false 5 202 [.inr (.inr (x0)), .inl (x1), .inl (x2)] (hp σ) (cN iI r) := by
  refine T_meth (md := m_X12_outcome) (d0 := 4) (cv := (cN iI)) rfl (lb rfl) (lb rfl) ?_
  unfold f_X12_outcome
  show Snd false none _ _ _ _ (0, [(0, .inr (.inr (x0))), (1, .inl (x1)), (2, .inl (x2))], [], hp σ, 0, 0)
  refine T_go (S' := (1, [(0, .inr (.inr (x0))), (1, .inl (x1)), (2, .inl (x2))], [.inl (x1)], hp σ, 0, 0)) 1 rfl ?_
  refine T_if_eq 15 rfl rfl (fun _ => ?_) (fun _ => ?_)
  · refine T_loc (ls' := [(0, .inr (.inr (x0))), (1, .inl (x1)), (2, .inl (x2))]) [0, 1, 2] rfl ?_
    exact s_X12_outcome_15 x0 x1 x2 σ
  · refine T_go (S' := (6, [(0, .inr (.inr (x0))), (1, .inl (x1)), (2, .inl (x2))], [.inl ((1 : Int32)), .inl (x1)], hp σ, 0, 0)) 2 rfl ?_
    refine T_icmp_eq 15 rfl rfl (fun _ => ?_) (fun _ => ?_)
    · refine T_loc (ls' := [(0, .inr (.inr (x0))), (1, .inl (x1)), (2, .inl (x2))]) [0, 1, 2] rfl ?_
      exact s_X12_outcome_15 x0 x1 x2 σ
    · refine T_go (S' := (11, [(0, .inr (.inr (x0))), (1, .inl (x1)), (2, .inl (x2))], [.inl ((2 : Int32)), .inr (.inr (x0))], hp σ, 0, 0)) 2 rfl ?_
      refine T_cv (i := iI) (as := [.inr (.inr (x0)), .inl ((2 : Int32))]) (rest := []) (st := [.inl ((2 : Int32)), .inr (.inr (x0))]) rfl rfl rfl ⟨lb rfl, lb rfl, lb rfl, lb rfl⟩ (fun _ h => Ew_le (lb rfl) (s_X12_fails x0 (2 : Int32) σ _ h)) (fun _ r1 => ?_)
      show Snd false none _ _ _ (cN iI) (14, [(0, .inr (.inr (x0))), (1, .inl (x1)), (2, .inl (x2))], [.inl (r1.1)], hp r1.2, 0, 0)
      exact T_ret rfl
def f_X12_outcomesAnew (x0 : Nat) (x1 : Int32) (σ : eMem) : Option (Int32 × eMem) :=
  if (KH x0).1 = 10 then
    Option.bind (f_X12_outcomesTold x0 x1 σ) (fun r1 =>
      some (r1.1, r1.2)
      )
  else none
set_option maxHeartbeats 4000000 in
set_option maxRecDepth 20000 in
theorem s_X12_outcomesAnew (x0 : Nat) (x1 : Int32) (σ : eMem) : ∀ r, f_X12_outcomesAnew x0 x1 σ = some r → Ew false 6 203 [.inr (.inr (x0)), .inl (x1)] (hp σ) (cN iI r) := by
  refine T_meth (md := m_X12_outcomesAnew) (d0 := 5) (cv := (cN iI)) rfl (lb rfl) (lb rfl) ?_
  unfold f_X12_outcomesAnew
  show Snd false none _ _ _ _ (0, [(0, .inr (.inr (x0))), (1, .inl (x1))], [], hp σ, 0, 0)
  refine T_go (S' := (2, [(0, .inr (.inr (x0))), (1, .inl (x1))], [.inl (x1), .inr (.inr (x0))], hp σ, 0, 0)) 2 rfl ?_
  refine T_cv (i := iI) (as := [.inr (.inr (x0)), .inl (x1)]) (rest := []) (st := [.inl (x1), .inr (.inr (x0))]) rfl rfl rfl ⟨lb rfl, lb rfl, lb rfl, lb rfl⟩ (fun _ h => Ew_le (lb rfl) (s_X12_outcomesTold x0 x1 σ _ h)) (fun _ r1 => ?_)
  show Snd false none _ _ _ (cN iI) (5, [(0, .inr (.inr (x0))), (1, .inl (x1))], [.inl (r1.1)], hp r1.2, 0, 0)
  exact T_ret rfl
def f_X12_areAlike_23 (s0 : Int32) (σ : eMem) : Option (Int32 × eMem) :=
  if eB s0 = true then some (s0, σ) else none
set_option maxHeartbeats 4000000 in
set_option maxRecDepth 20000 in
theorem s_X12_areAlike_23 (s0 : Int32) (σ : eMem) : Snd false none 4 m_X12_areAlike (f_X12_areAlike_23 s0 σ) (cN iI) (23, [], [.inl (s0)], hp σ, 0, 0) := by
  unfold f_X12_areAlike_23
  exact T_chkr rfl
def f_X12_areAlike (x0 : Nat) (σ : eMem) : Option (Int32 × eMem) :=
  if (KH x0).1 = 10 then eLet ((eup σ.1 x0 32 (0 : Int32), σ.2) : eMem) (fun σ1 =>
    if (KH x0).1 = 10 then
      Option.bind (f_X12_goesThrough x0 (0 : Int32) σ1) (fun r2 =>
        if (KH x0).1 = 10 then
          Option.bind (f_X12_goesThrough x0 (1 : Int32) r2.2) (fun r3 =>
            if ¬ r2.1 = r3.1 then
              f_X12_areAlike_23 (0 : Int32) r3.2
            else
              f_X12_areAlike_23 (1 : Int32) r3.2
            )
        else none
        )
    else none
    ) else none
set_option maxHeartbeats 4000000 in
set_option maxRecDepth 20000 in
theorem s_X12_areAlike (x0 : Nat) (σ : eMem) : ∀ r, f_X12_areAlike x0 σ = some r → Ew false 5 204 [.inr (.inr (x0))] (hp σ) (cN iI r) := by
  refine T_meth (md := m_X12_areAlike) (d0 := 4) (cv := (cN iI)) rfl (lb rfl) (lb rfl) ?_
  unfold f_X12_areAlike
  show Snd false none _ _ _ _ (0, [(0, .inr (.inr (x0)))], [], hp σ, 0, 0)
  refine T_go (S' := (2, [(0, .inr (.inr (x0)))], [.inl ((0 : Int32)), .inr (.inr (x0))], hp σ, 0, 0)) 2 rfl ?_
  refine T_putI rfl (fun _ => ?_)
  refine T_let (Sf := fun σ1 => (5, [(0, .inr (.inr (x0)))], [], hp σ1, 0, 0)) (fun σ1 => ?_)
  refine T_go (S' := (7, [(0, .inr (.inr (x0)))], [.inl ((0 : Int32)), .inr (.inr (x0))], hp σ1, 0, 0)) 2 rfl ?_
  refine T_cv (i := iI) (as := [.inr (.inr (x0)), .inl ((0 : Int32))]) (rest := []) (st := [.inl ((0 : Int32)), .inr (.inr (x0))]) rfl rfl rfl ⟨lb rfl, lb rfl, lb rfl, lb rfl⟩ (fun _ h => Ew_le (lb rfl) (s_X12_goesThrough x0 (0 : Int32) σ1 _ h)) (fun _ r2 => ?_)
  show Snd false none _ _ _ (cN iI) (10, [(0, .inr (.inr (x0)))], [.inl (r2.1)], hp r2.2, 0, 0)
  refine T_go (S' := (12, [(0, .inr (.inr (x0)))], [.inl ((1 : Int32)), .inr (.inr (x0)), .inl (r2.1)], hp r2.2, 0, 0)) 2 rfl ?_
  refine T_cv (i := iI) (as := [.inr (.inr (x0)), .inl ((1 : Int32))]) (rest := [.inl (r2.1)]) (st := [.inl ((1 : Int32)), .inr (.inr (x0)), .inl (r2.1)]) rfl rfl rfl ⟨lb rfl, lb rfl, lb rfl, lb rfl⟩ (fun _ h => Ew_le (lb rfl) (s_X12_goesThrough x0 (1 : Int32) r2.2 _ h)) (fun _ r3 => ?_)
  show Snd false none _ _ _ (cN iI) (15, [(0, .inr (.inr (x0)))], [.inl (r3.1), .inl (r2.1)], hp r3.2, 0, 0)
  refine T_icmp_ne 22 rfl rfl (fun _ => ?_) (fun _ => ?_)
  · refine T_go (S' := (23, [(0, .inr (.inr (x0)))], [.inl ((0 : Int32))], hp r3.2, 0, 0)) 1 rfl ?_
    refine T_loc (ls' := []) [] rfl ?_
    exact s_X12_areAlike_23 (0 : Int32) r3.2
  · refine T_go (S' := (23, [(0, .inr (.inr (x0)))], [.inl ((1 : Int32))], hp r3.2, 0, 0)) 2 rfl ?_
    refine T_loc (ls' := []) [] rfl ?_
    exact s_X12_areAlike_23 (1 : Int32) r3.2
