/-! what the methods do -/
def f_X6_isSameAs_15 : Nat → Nat → Nat → Int32 → eMem → Option (Int32 × eMem)
  | 0, _, _, _, _ => none
  | n + 1, x0, x1, x2, σ =>
    if (KH x0).1 = 5 then
      if (σ.1 x0 1) ≤ x2 then
        if eB (1 : Int32) = true then some ((1 : Int32), σ) else none
      else
        if (KH x0).1 = 5 then
          if (KH (RH x0 0)).1 = 11 ∧ eix x2 (KH (RH x0 0)).2 = true then
            if (KH x1).1 = 5 then
              if (KH (RH x1 0)).1 = 11 ∧ eix x2 (KH (RH x1 0)).2 = true then
                if (σ.1 (RH x0 0) x2.toNatClampNeg) = (σ.1 (RH x1 0) x2.toNatClampNeg) then
                  f_X6_isSameAs_15 n x0 x1 (x2 + (1 : Int32)) σ
                else
                  if eB (0 : Int32) = true then some ((0 : Int32), σ) else none
              else none
            else none
          else none
        else none
    else none
set_option maxHeartbeats 4000000 in
set_option maxRecDepth 20000 in
theorem s_X6_isSameAs_15 : ∀ (n : Nat) (x0 : Nat) (x1 : Nat) (x2 : Int32) (σ : eMem), Snd false none 0 m_X6_isSameAs (f_X6_isSameAs_15 n x0 x1 x2 σ) (cN iI) (15, [(0, .inr (.inr (x0))), (1, .inr (.inr (x1))), (2, .inl (x2))], [], hp σ, 0, 0) := by
  intro n
  induction n with
  | zero => exact fun _ _ _ _ => T_none
  | succ n ih =>
    intro x0 x1 x2 σ
    unfold f_X6_isSameAs_15
    refine T_go (S' := (17, [(0, .inr (.inr (x0))), (1, .inr (.inr (x1))), (2, .inl (x2))], [.inr (.inr (x0)), .inl (x2)], hp σ, 0, 0)) 2 rfl ?_
    refine T_getI rfl (fun _ => ?_)
    refine T_icmp_ge 46 rfl rfl (fun _ => ?_) (fun _ => ?_)
    · refine T_go (S' := (47, [(0, .inr (.inr (x0))), (1, .inr (.inr (x1))), (2, .inl (x2))], [.inl ((1 : Int32))], hp σ, 0, 0)) 1 rfl ?_
      exact T_chkr rfl
    · refine T_go (S' := (24, [(0, .inr (.inr (x0))), (1, .inr (.inr (x1))), (2, .inl (x2))], [.inr (.inr (x0))], hp σ, 0, 0)) 1 rfl ?_
      refine T_getR rfl (fun _ => ?_)
      refine T_go (S' := (28, [(0, .inr (.inr (x0))), (1, .inr (.inr (x1))), (2, .inl (x2))], [.inl (x2), .inr (.inr ((RH x0 0)))], hp σ, 0, 0)) 1 rfl ?_
      refine T_iald rfl (fun _ => ?_)
      refine T_go (S' := (30, [(0, .inr (.inr (x0))), (1, .inr (.inr (x1))), (2, .inl (x2))], [.inr (.inr (x1)), .inl ((σ.1 (RH x0 0) x2.toNatClampNeg))], hp σ, 0, 0)) 1 rfl ?_
      refine T_getR rfl (fun _ => ?_)
      refine T_go (S' := (34, [(0, .inr (.inr (x0))), (1, .inr (.inr (x1))), (2, .inl (x2))], [.inl (x2), .inr (.inr ((RH x1 0))), .inl ((σ.1 (RH x0 0) x2.toNatClampNeg))], hp σ, 0, 0)) 1 rfl ?_
      refine T_iald rfl (fun _ => ?_)
      refine T_icmp_eq 40 rfl rfl (fun _ => ?_) (fun _ => ?_)
      · refine T_go (S' := (15, [(2, .inl ((x2 + (1 : Int32)))), (0, .inr (.inr (x0))), (1, .inr (.inr (x1)))], [], hp σ, 0, 0)) 2 rfl ?_
        refine T_loc (ls' := [(0, .inr (.inr (x0))), (1, .inr (.inr (x1))), (2, .inl ((x2 + (1 : Int32))))]) [1, 2, 0] rfl ?_
        exact ih x0 x1 (x2 + (1 : Int32)) σ
      · refine T_go (S' := (39, [(0, .inr (.inr (x0))), (1, .inr (.inr (x1))), (2, .inl (x2))], [.inl ((0 : Int32))], hp σ, 0, 0)) 1 rfl ?_
        exact T_chkr rfl
def f_X6_isSameAs (x0 : Nat) (x1 : Nat) (σ : eMem) : Option (Int32 × eMem) :=
  if (KH x0).1 = 5 then
    if (KH x1).1 = 5 then
      if (σ.1 x0 1) = (σ.1 x1 1) then
        f_X6_isSameAs_15 1000000 x0 x1 (0 : Int32) σ
      else
        if eB (0 : Int32) = true then some ((0 : Int32), σ) else none
    else none
  else none
set_option maxHeartbeats 4000000 in
set_option maxRecDepth 20000 in
theorem s_X6_isSameAs (x0 : Nat) (x1 : Nat) (σ : eMem) : ∀ r, f_X6_isSameAs x0 x1 σ = some r → Ew false 1 63 [.inr (.inr (x0)), .inr (.inr (x1))] (hp σ) (cN iI r) := by
  refine T_meth (md := m_X6_isSameAs) (d0 := 0) (cv := (cN iI)) rfl (lb rfl) (lb rfl) ?_
  unfold f_X6_isSameAs
  show Snd false none _ _ _ _ (0, [(0, .inr (.inr (x0))), (1, .inr (.inr (x1)))], [], hp σ, 0, 0)
  refine T_go (S' := (1, [(0, .inr (.inr (x0))), (1, .inr (.inr (x1)))], [.inr (.inr (x0))], hp σ, 0, 0)) 1 rfl ?_
  refine T_getI rfl (fun _ => ?_)
  refine T_go (S' := (5, [(0, .inr (.inr (x0))), (1, .inr (.inr (x1)))], [.inr (.inr (x1)), .inl ((σ.1 x0 1))], hp σ, 0, 0)) 1 rfl ?_
  refine T_getI rfl (fun _ => ?_)
  refine T_icmp_eq 13 rfl rfl (fun _ => ?_) (fun _ => ?_)
  · refine T_go (S' := (15, [(2, .inl ((0 : Int32))), (0, .inr (.inr (x0))), (1, .inr (.inr (x1)))], [], hp σ, 0, 0)) 2 rfl ?_
    refine T_loc (ls' := [(0, .inr (.inr (x0))), (1, .inr (.inr (x1))), (2, .inl ((0 : Int32)))]) [1, 2, 0] rfl ?_
    exact s_X6_isSameAs_15 1000000 x0 x1 (0 : Int32) σ
  · refine T_go (S' := (12, [(0, .inr (.inr (x0))), (1, .inr (.inr (x1)))], [.inl ((0 : Int32))], hp σ, 0, 0)) 1 rfl ?_
    exact T_chkr rfl
def f_X8_total_4 : Nat → Nat → Int32 → Int32 → eMem → Option (Int32 × eMem)
  | 0, _, _, _, _ => none
  | n + 1, x0, x1, x2, σ =>
    if (3 : Int32) ≤ x2 then
      some (x1, σ)
    else
      if (KH x0).1 = 7 then
        if (KH (RH x0 4)).1 = 11 ∧ eix x2 (KH (RH x0 4)).2 = true then
          eLet ((x1 + (σ.1 (RH x0 4) x2.toNatClampNeg)) : Int32) (fun v1 =>
            f_X8_total_4 n x0 v1 (x2 + (1 : Int32)) σ
            )
        else none
      else none
set_option maxHeartbeats 4000000 in
set_option maxRecDepth 20000 in
theorem s_X8_total_4 : ∀ (n : Nat) (x0 : Nat) (x1 : Int32) (x2 : Int32) (σ : eMem), Snd false none 0 m_X8_total (f_X8_total_4 n x0 x1 x2 σ) (cN iI) (4, [(0, .inr (.inr (x0))), (1, .inl (x1)), (2, .inl (x2))], [], hp σ, 0, 0) := by
  intro n
  induction n with
  | zero => exact fun _ _ _ _ => T_none
  | succ n ih =>
    intro x0 x1 x2 σ
    unfold f_X8_total_4
    refine T_go (S' := (6, [(0, .inr (.inr (x0))), (1, .inl (x1)), (2, .inl (x2))], [.inl ((3 : Int32)), .inl (x2)], hp σ, 0, 0)) 2 rfl ?_
    refine T_icmp_ge 24 rfl rfl (fun _ => ?_) (fun _ => ?_)
    · refine T_go (S' := (25, [(0, .inr (.inr (x0))), (1, .inl (x1)), (2, .inl (x2))], [.inl (x1)], hp σ, 0, 0)) 1 rfl ?_
      exact T_ret rfl
    · refine T_go (S' := (11, [(0, .inr (.inr (x0))), (1, .inl (x1)), (2, .inl (x2))], [.inr (.inr (x0)), .inl (x1)], hp σ, 0, 0)) 2 rfl ?_
      refine T_getR rfl (fun _ => ?_)
      refine T_go (S' := (15, [(0, .inr (.inr (x0))), (1, .inl (x1)), (2, .inl (x2))], [.inl (x2), .inr (.inr ((RH x0 4))), .inl (x1)], hp σ, 0, 0)) 1 rfl ?_
      refine T_iald rfl (fun _ => ?_)
      refine T_go (S' := (18, [(1, .inl ((x1 + (σ.1 (RH x0 4) x2.toNatClampNeg)))), (0, .inr (.inr (x0))), (2, .inl (x2))], [], hp σ, 0, 0)) 2 rfl ?_
      refine T_let (Sf := fun v1 => (18, [(1, .inl (v1)), (0, .inr (.inr (x0))), (2, .inl (x2))], [], hp σ, 0, 0)) (fun v1 => ?_)
      refine T_go (S' := (4, [(2, .inl ((x2 + (1 : Int32)))), (1, .inl (v1)), (0, .inr (.inr (x0)))], [], hp σ, 0, 0)) 2 rfl ?_
      refine T_loc (ls' := [(0, .inr (.inr (x0))), (1, .inl (v1)), (2, .inl ((x2 + (1 : Int32))))]) [2, 1, 0] rfl ?_
      exact ih x0 v1 (x2 + (1 : Int32)) σ
def f_X8_total (x0 : Nat) (σ : eMem) : Option (Int32 × eMem) :=
  f_X8_total_4 1000000 x0 (0 : Int32) (0 : Int32) σ
set_option maxHeartbeats 4000000 in
set_option maxRecDepth 20000 in
theorem s_X8_total (x0 : Nat) (σ : eMem) : ∀ r, f_X8_total x0 σ = some r → Ew false 1 73 [.inr (.inr (x0))] (hp σ) (cN iI r) := by
  refine T_meth (md := m_X8_total) (d0 := 0) (cv := (cN iI)) rfl (lb rfl) (lb rfl) ?_
  unfold f_X8_total
  show Snd false none _ _ _ _ (0, [(0, .inr (.inr (x0)))], [], hp σ, 0, 0)
  refine T_go (S' := (4, [(2, .inl ((0 : Int32))), (1, .inl ((0 : Int32))), (0, .inr (.inr (x0)))], [], hp σ, 0, 0)) 4 rfl ?_
  refine T_loc (ls' := [(0, .inr (.inr (x0))), (1, .inl ((0 : Int32))), (2, .inl ((0 : Int32)))]) [2, 1, 0] rfl ?_
  exact s_X8_total_4 1000000 x0 (0 : Int32) (0 : Int32) σ
def f_X8_hasRoom_24 (s0 : Int32) (σ : eMem) : Option (Int32 × eMem) :=
  if eB s0 = true then some (s0, σ) else none
set_option maxHeartbeats 4000000 in
set_option maxRecDepth 20000 in
theorem s_X8_hasRoom_24 (s0 : Int32) (σ : eMem) : Snd false none 1 m_X8_hasRoom (f_X8_hasRoom_24 s0 σ) (cN iI) (24, [], [.inl (s0)], hp σ, 0, 0) := by
  unfold f_X8_hasRoom_24
  exact T_chkr rfl
def f_X8_hasRoom_23  (σ : eMem) : Option (Int32 × eMem) :=
  f_X8_hasRoom_24 (0 : Int32) σ
set_option maxHeartbeats 4000000 in
set_option maxRecDepth 20000 in
theorem s_X8_hasRoom_23  (σ : eMem) : Snd false none 1 m_X8_hasRoom (f_X8_hasRoom_23 σ) (cN iI) (23, [], [], hp σ, 0, 0) := by
  unfold f_X8_hasRoom_23
  refine T_go (S' := (24, [], [.inl ((0 : Int32))], hp σ, 0, 0)) 1 rfl ?_
  refine T_loc (ls' := []) [] rfl ?_
  exact s_X8_hasRoom_24 (0 : Int32) σ
def f_X8_hasRoom (x0 : Nat) (x1 : Int32) (σ : eMem) : Option (Int32 × eMem) :=
  if (KH x0).1 = 7 then
    if (KH (RH x0 4)).1 = 11 ∧ eix x1 (KH (RH x0 4)).2 = true then
      if (4 : Int32) ≤ (σ.1 (RH x0 4) x1.toNatClampNeg) then
        f_X8_hasRoom_23  σ
      else
        if (KH x0).1 = 7 then
          Option.bind (f_X8_total x0 σ) (fun r1 =>
            if (6 : Int32) ≤ r1.1 then
              f_X8_hasRoom_23  r1.2
            else
              f_X8_hasRoom_24 (1 : Int32) r1.2
            )
        else none
    else none
  else none
set_option maxHeartbeats 4000000 in
set_option maxRecDepth 20000 in
theorem s_X8_hasRoom (x0 : Nat) (x1 : Int32) (σ : eMem) : ∀ r, f_X8_hasRoom x0 x1 σ = some r → Ew false 2 74 [.inr (.inr (x0)), .inl (x1)] (hp σ) (cN iI r) := by
  refine T_meth (md := m_X8_hasRoom) (d0 := 1) (cv := (cN iI)) rfl (lb rfl) (lb rfl) ?_
  unfold f_X8_hasRoom
  show Snd false none _ _ _ _ (0, [(0, .inr (.inr (x0))), (1, .inl (x1))], [], hp σ, 0, 0)
  refine T_go (S' := (1, [(0, .inr (.inr (x0))), (1, .inl (x1))], [.inr (.inr (x0))], hp σ, 0, 0)) 1 rfl ?_
  refine T_getR rfl (fun _ => ?_)
  refine T_go (S' := (5, [(0, .inr (.inr (x0))), (1, .inl (x1))], [.inl (x1), .inr (.inr ((RH x0 4)))], hp σ, 0, 0)) 1 rfl ?_
  refine T_iald rfl (fun _ => ?_)
  refine T_go (S' := (7, [(0, .inr (.inr (x0))), (1, .inl (x1))], [.inl ((4 : Int32)), .inl ((σ.1 (RH x0 4) x1.toNatClampNeg))], hp σ, 0, 0)) 1 rfl ?_
  refine T_icmp_ge 23 rfl rfl (fun _ => ?_) (fun _ => ?_)
  · refine T_loc (ls' := []) [] rfl ?_
    exact s_X8_hasRoom_23  σ
  · refine T_go (S' := (11, [(0, .inr (.inr (x0))), (1, .inl (x1))], [.inr (.inr (x0))], hp σ, 0, 0)) 1 rfl ?_
    refine T_cv (i := iI) (as := [.inr (.inr (x0))]) (rest := []) (st := [.inr (.inr (x0))]) rfl rfl rfl ⟨lb rfl, lb rfl, lb rfl, lb rfl⟩ (fun _ h => Ew_le (lb rfl) (s_X8_total x0 σ _ h)) (fun _ r1 => ?_)
    show Snd false none _ _ _ (cN iI) (14, [(0, .inr (.inr (x0))), (1, .inl (x1))], [.inl (r1.1)], hp r1.2, 0, 0)
    refine T_go (S' := (16, [(0, .inr (.inr (x0))), (1, .inl (x1))], [.inl ((6 : Int32)), .inl (r1.1)], hp r1.2, 0, 0)) 1 rfl ?_
    refine T_icmp_ge 23 rfl rfl (fun _ => ?_) (fun _ => ?_)
    · refine T_loc (ls' := []) [] rfl ?_
      exact s_X8_hasRoom_23  r1.2
    · refine T_go (S' := (24, [(0, .inr (.inr (x0))), (1, .inl (x1))], [.inl ((1 : Int32))], hp r1.2, 0, 0)) 2 rfl ?_
      refine T_loc (ls' := []) [] rfl ?_
      exact s_X8_hasRoom_24 (1 : Int32) r1.2
def f_X8_weigh_L5 : Nat → (Nat × Int32 × Int32 ⊕ (Nat × Int32 × Int32 ⊕ (Nat × Int32 × Int32 ⊕ (Nat × Int32 × Int32 × Int32 ⊕ (Nat × Int32 × Int32 × Int32 × Nat × Int32 × Int32 ⊕ (Nat × Int32 × Int32)))))) → eMem → Option (Unit × eMem)
  | 0, _, _ => none
  | n + 1, .inl (x0, x1, x2), σ =>
    if x2 < (0 : Int32) then
      some ((), σ)
    else
      if (KH x0).1 = 7 then
        Option.bind (f_X8_isUsed x0 x2 σ) (fun r1 =>
          if r1.1 = (0 : Int32) then
            f_X8_weigh_L5 n (.inr (.inr (.inl (x0, x1, x2)))) r1.2
          else
            if (KH x0).1 = 7 then
              if (KH (RH x0 0)).1 = 11 ∧ eix x2 (KH (RH x0 0)).2 = true then
                if (r1.2.1 (RH x0 0) x2.toNatClampNeg) = (1 : Int32) then
                  f_X8_weigh_L5 n (.inr (.inl (x0, x1, x2))) r1.2
                else
                  if (KH x0).1 = 7 then
                    if (KH (RH x0 0)).1 = 11 ∧ eix x2 (KH (RH x0 0)).2 = true then
                      if ¬ (r1.2.1 (RH x0 0) x2.toNatClampNeg) = (3 : Int32) then
                        f_X8_weigh_L5 n (.inr (.inr (.inl (x0, x1, x2)))) r1.2
                      else
                        f_X8_weigh_L5 n (.inr (.inl (x0, x1, x2))) r1.2
                    else none
                  else none
              else none
            else none
          )
      else none
  | n + 1, .inr (.inl (x0, x1, x2)), σ =>
    f_X8_weigh_L5 n (.inr (.inr (.inr (.inl (x0, x1, x2, (1 : Int32)))))) σ
  | n + 1, .inr (.inr (.inl (x0, x1, x2))), σ =>
    f_X8_weigh_L5 n (.inr (.inr (.inr (.inl (x0, x1, x2, (0 : Int32)))))) σ
  | n + 1, .inr (.inr (.inr (.inl (x0, x1, x2, s0)))), σ =>
    if (KH x0).1 = 7 then
      if s0 = (0 : Int32) then
        f_X8_weigh_L5 n (.inr (.inr (.inr (.inr (.inl (x0, x1, x2, s0, (RH x0 3), x2, (0 : Int32))))))) σ
      else
        f_X8_weigh_L5 n (.inr (.inr (.inr (.inr (.inl (x0, x1, x2, s0, (RH x0 3), x2, x1)))))) σ
    else none
  | n + 1, .inr (.inr (.inr (.inr (.inl (x0, x1, x2, x3, s0, s1, s2))))), σ =>
    if (KH s0).1 = 11 ∧ eix s1 (KH s0).2 = true then eLet ((eup σ.1 s0 s1.toNatClampNeg s2, σ.2) : eMem) (fun σ1 =>
      if x3 = (0 : Int32) then
        f_X8_weigh_L5 n (.inr (.inr (.inr (.inr (.inr ((x0, x1, x2))))))) σ1
      else
        eLet ((x1 * (10 : Int32)) : Int32) (fun v2 =>
          f_X8_weigh_L5 n (.inr (.inr (.inr (.inr (.inr ((x0, v2, x2))))))) σ1
          )
      ) else none
  | n + 1, .inr (.inr (.inr (.inr (.inr ((x0, x1, x2)))))), σ =>
    f_X8_weigh_L5 n (.inl (x0, x1, (x2 + (-1 : Int32)))) σ
set_option maxHeartbeats 4000000 in
set_option maxRecDepth 20000 in
theorem s_X8_weigh_L5 : ∀ (n : Nat), (∀ (x0 : Nat) (x1 : Int32) (x2 : Int32) (σ : eMem), Snd false none 1 m_X8_weigh (f_X8_weigh_L5 n (.inl (x0, x1, x2)) σ) (cN iU) (5, [(0, .inr (.inr (x0))), (1, .inl (x1)), (2, .inl (x2))], [], hp σ, 0, 0)) ∧ (∀ (x0 : Nat) (x1 : Int32) (x2 : Int32) (σ : eMem), Snd false none 1 m_X8_weigh (f_X8_weigh_L5 n (.inr (.inl (x0, x1, x2))) σ) (cN iU) (37, [(0, .inr (.inr (x0))), (1, .inl (x1)), (2, .inl (x2))], [], hp σ, 0, 0)) ∧ (∀ (x0 : Nat) (x1 : Int32) (x2 : Int32) (σ : eMem), Snd false none 1 m_X8_weigh (f_X8_weigh_L5 n (.inr (.inr (.inl (x0, x1, x2)))) σ) (cN iU) (41, [(0, .inr (.inr (x0))), (1, .inl (x1)), (2, .inl (x2))], [], hp σ, 0, 0)) ∧ (∀ (x0 : Nat) (x1 : Int32) (x2 : Int32) (s0 : Int32) (σ : eMem), Snd false none 1 m_X8_weigh (f_X8_weigh_L5 n (.inr (.inr (.inr (.inl (x0, x1, x2, s0))))) σ) (cN iU) (42, [(0, .inr (.inr (x0))), (1, .inl (x1)), (2, .inl (x2))], [.inl (s0)], hp σ, 0, 0)) ∧ (∀ (x0 : Nat) (x1 : Int32) (x2 : Int32) (x3 : Int32) (s0 : Nat) (s1 : Int32) (s2 : Int32) (σ : eMem), Snd false none 1 m_X8_weigh (f_X8_weigh_L5 n (.inr (.inr (.inr (.inr (.inl (x0, x1, x2, x3, s0, s1, s2)))))) σ) (cN iU) (57, [(0, .inr (.inr (x0))), (1, .inl (x1)), (2, .inl (x2)), (3, .inl (x3))], [.inl (s2), .inl (s1), .inr (.inr (s0))], hp σ, 0, 0)) ∧ (∀ (x0 : Nat) (x1 : Int32) (x2 : Int32) (σ : eMem), Snd false none 1 m_X8_weigh (f_X8_weigh_L5 n (.inr (.inr (.inr (.inr (.inr ((x0, x1, x2))))))) σ) (cN iU) (67, [(0, .inr (.inr (x0))), (1, .inl (x1)), (2, .inl (x2))], [], hp σ, 0, 0)) := by
  intro n
  induction n with
  | zero => exact ⟨fun _ _ _ _ => T_none, fun _ _ _ _ => T_none, fun _ _ _ _ => T_none, fun _ _ _ _ _ => T_none, fun _ _ _ _ _ _ _ _ => T_none, fun _ _ _ _ => T_none⟩
  | succ n ih =>
    refine ⟨?_, ?_, ?_, ?_, ?_, ?_⟩
    · intro x0 x1 x2 σ
      unfold f_X8_weigh_L5
      refine T_go (S' := (6, [(0, .inr (.inr (x0))), (1, .inl (x1)), (2, .inl (x2))], [.inl (x2)], hp σ, 0, 0)) 1 rfl ?_
      refine T_if_lt 73 rfl rfl (fun _ => ?_) (fun _ => ?_)
      · exact T_ret rfl
      · refine T_go (S' := (11, [(0, .inr (.inr (x0))), (1, .inl (x1)), (2, .inl (x2))], [.inl (x2), .inr (.inr (x0))], hp σ, 0, 0)) 2 rfl ?_
        refine T_cv (i := iI) (as := [.inr (.inr (x0)), .inl (x2)]) (rest := []) (st := [.inl (x2), .inr (.inr (x0))]) rfl rfl rfl ⟨lb rfl, lb rfl, lb rfl, lb rfl⟩ (fun _ h => Ew_le (lb rfl) (s_X8_isUsed x0 x2 σ _ h)) (fun _ r1 => ?_)
        show Snd false none _ _ _ (cN iU) (14, [(0, .inr (.inr (x0))), (1, .inl (x1)), (2, .inl (x2))], [.inl (r1.1)], hp r1.2, 0, 0)
        refine T_if_eq 41 rfl rfl (fun _ => ?_) (fun _ => ?_)
        · refine T_loc (ls' := [(0, .inr (.inr (x0))), (1, .inl (x1)), (2, .inl (x2))]) [0, 1, 2] rfl ?_
          exact (ih.2.2.1) x0 x1 x2 r1.2
        · refine T_go (S' := (18, [(0, .inr (.inr (x0))), (1, .inl (x1)), (2, .inl (x2))], [.inr (.inr (x0))], hp r1.2, 0, 0)) 1 rfl ?_
          refine T_getR rfl (fun _ => ?_)
          refine T_go (S' := (22, [(0, .inr (.inr (x0))), (1, .inl (x1)), (2, .inl (x2))], [.inl (x2), .inr (.inr ((RH x0 0)))], hp r1.2, 0, 0)) 1 rfl ?_
          refine T_iald rfl (fun _ => ?_)
          refine T_go (S' := (24, [(0, .inr (.inr (x0))), (1, .inl (x1)), (2, .inl (x2))], [.inl ((1 : Int32)), .inl ((r1.2.1 (RH x0 0) x2.toNatClampNeg))], hp r1.2, 0, 0)) 1 rfl ?_
          refine T_icmp_eq 37 rfl rfl (fun _ => ?_) (fun _ => ?_)
          · refine T_loc (ls' := [(0, .inr (.inr (x0))), (1, .inl (x1)), (2, .inl (x2))]) [0, 1, 2] rfl ?_
            exact (ih.2.1) x0 x1 x2 r1.2
          · refine T_go (S' := (28, [(0, .inr (.inr (x0))), (1, .inl (x1)), (2, .inl (x2))], [.inr (.inr (x0))], hp r1.2, 0, 0)) 1 rfl ?_
            refine T_getR rfl (fun _ => ?_)
            refine T_go (S' := (32, [(0, .inr (.inr (x0))), (1, .inl (x1)), (2, .inl (x2))], [.inl (x2), .inr (.inr ((RH x0 0)))], hp r1.2, 0, 0)) 1 rfl ?_
            refine T_iald rfl (fun _ => ?_)
            refine T_go (S' := (34, [(0, .inr (.inr (x0))), (1, .inl (x1)), (2, .inl (x2))], [.inl ((3 : Int32)), .inl ((r1.2.1 (RH x0 0) x2.toNatClampNeg))], hp r1.2, 0, 0)) 1 rfl ?_
            refine T_icmp_ne 41 rfl rfl (fun _ => ?_) (fun _ => ?_)
            · refine T_loc (ls' := [(0, .inr (.inr (x0))), (1, .inl (x1)), (2, .inl (x2))]) [0, 1, 2] rfl ?_
              exact (ih.2.2.1) x0 x1 x2 r1.2
            · refine T_loc (ls' := [(0, .inr (.inr (x0))), (1, .inl (x1)), (2, .inl (x2))]) [0, 1, 2] rfl ?_
              exact (ih.2.1) x0 x1 x2 r1.2
    · intro x0 x1 x2 σ
      unfold f_X8_weigh_L5
      refine T_go (S' := (42, [(0, .inr (.inr (x0))), (1, .inl (x1)), (2, .inl (x2))], [.inl ((1 : Int32))], hp σ, 0, 0)) 2 rfl ?_
      refine T_loc (ls' := [(0, .inr (.inr (x0))), (1, .inl (x1)), (2, .inl (x2))]) [0, 1, 2] rfl ?_
      exact (ih.2.2.2.1) x0 x1 x2 (1 : Int32) σ
    · intro x0 x1 x2 σ
      unfold f_X8_weigh_L5
      refine T_go (S' := (42, [(0, .inr (.inr (x0))), (1, .inl (x1)), (2, .inl (x2))], [.inl ((0 : Int32))], hp σ, 0, 0)) 1 rfl ?_
      refine T_loc (ls' := [(0, .inr (.inr (x0))), (1, .inl (x1)), (2, .inl (x2))]) [0, 1, 2] rfl ?_
      exact (ih.2.2.2.1) x0 x1 x2 (0 : Int32) σ
    · intro x0 x1 x2 s0 σ
      unfold f_X8_weigh_L5
      refine T_go (S' := (44, [(3, .inl (s0)), (0, .inr (.inr (x0))), (1, .inl (x1)), (2, .inl (x2))], [.inr (.inr (x0))], hp σ, 0, 0)) 2 rfl ?_
      refine T_getR rfl (fun _ => ?_)
      refine T_go (S' := (49, [(3, .inl (s0)), (0, .inr (.inr (x0))), (1, .inl (x1)), (2, .inl (x2))], [.inl (s0), .inl (x2), .inr (.inr ((RH x0 3)))], hp σ, 0, 0)) 2 rfl ?_
      refine T_if_eq 56 rfl rfl (fun _ => ?_) (fun _ => ?_)
      · refine T_go (S' := (57, [(3, .inl (s0)), (0, .inr (.inr (x0))), (1, .inl (x1)), (2, .inl (x2))], [.inl ((0 : Int32)), .inl (x2), .inr (.inr ((RH x0 3)))], hp σ, 0, 0)) 1 rfl ?_
        refine T_loc (ls' := [(0, .inr (.inr (x0))), (1, .inl (x1)), (2, .inl (x2)), (3, .inl (s0))]) [1, 2, 3, 0] rfl ?_
        exact (ih.2.2.2.2.1) x0 x1 x2 s0 (RH x0 3) x2 (0 : Int32) σ
      · refine T_go (S' := (57, [(3, .inl (s0)), (0, .inr (.inr (x0))), (1, .inl (x1)), (2, .inl (x2))], [.inl (x1), .inl (x2), .inr (.inr ((RH x0 3)))], hp σ, 0, 0)) 2 rfl ?_
        refine T_loc (ls' := [(0, .inr (.inr (x0))), (1, .inl (x1)), (2, .inl (x2)), (3, .inl (s0))]) [1, 2, 3, 0] rfl ?_
        exact (ih.2.2.2.2.1) x0 x1 x2 s0 (RH x0 3) x2 x1 σ
    · intro x0 x1 x2 x3 s0 s1 s2 σ
      unfold f_X8_weigh_L5
      refine T_iast rfl (fun _ => ?_)
      refine T_let (Sf := fun σ1 => (58, [(0, .inr (.inr (x0))), (1, .inl (x1)), (2, .inl (x2)), (3, .inl (x3))], [], hp σ1, 0, 0)) (fun σ1 => ?_)
      refine T_go (S' := (59, [(0, .inr (.inr (x0))), (1, .inl (x1)), (2, .inl (x2)), (3, .inl (x3))], [.inl (x3)], hp σ1, 0, 0)) 1 rfl ?_
      refine T_if_eq 67 rfl rfl (fun _ => ?_) (fun _ => ?_)
      · refine T_loc (ls' := [(0, .inr (.inr (x0))), (1, .inl (x1)), (2, .inl (x2))]) [0, 1, 2] rfl ?_
        exact (ih.2.2.2.2.2) x0 x1 x2 σ1
      · refine T_go (S' := (67, [(1, .inl ((x1 * (10 : Int32)))), (0, .inr (.inr (x0))), (2, .inl (x2)), (3, .inl (x3))], [], hp σ1, 0, 0)) 4 rfl ?_
        refine T_let (Sf := fun v2 => (67, [(1, .inl (v2)), (0, .inr (.inr (x0))), (2, .inl (x2)), (3, .inl (x3))], [], hp σ1, 0, 0)) (fun v2 => ?_)
        refine T_loc (ls' := [(0, .inr (.inr (x0))), (1, .inl (v2)), (2, .inl (x2))]) [1, 0, 2] rfl ?_
        exact (ih.2.2.2.2.2) x0 v2 x2 σ1
    · intro x0 x1 x2 σ
      unfold f_X8_weigh_L5
      refine T_go (S' := (5, [(2, .inl ((x2 + (-1 : Int32)))), (0, .inr (.inr (x0))), (1, .inl (x1))], [], hp σ, 0, 0)) 2 rfl ?_
      refine T_loc (ls' := [(0, .inr (.inr (x0))), (1, .inl (x1)), (2, .inl ((x2 + (-1 : Int32))))]) [1, 2, 0] rfl ?_
      exact (ih.1) x0 x1 (x2 + (-1 : Int32)) σ
def f_X8_weigh (x0 : Nat) (σ : eMem) : Option (Unit × eMem) :=
  f_X8_weigh_L5 1000000 (.inl (x0, (1 : Int32), (11 : Int32))) σ
set_option maxHeartbeats 4000000 in
set_option maxRecDepth 20000 in
theorem s_X8_weigh (x0 : Nat) (σ : eMem) : ∀ r, f_X8_weigh x0 σ = some r → Ew false 2 78 [.inr (.inr (x0))] (hp σ) (cN iU r) := by
  refine T_meth (md := m_X8_weigh) (d0 := 1) (cv := (cN iU)) rfl (lb rfl) (lb rfl) ?_
  unfold f_X8_weigh
  show Snd false none _ _ _ _ (0, [(0, .inr (.inr (x0)))], [], hp σ, 0, 0)
  refine T_go (S' := (5, [(2, .inl ((11 : Int32))), (1, .inl ((1 : Int32))), (0, .inr (.inr (x0)))], [], hp σ, 0, 0)) 4 rfl ?_
  refine T_loc (ls' := [(0, .inr (.inr (x0))), (1, .inl ((1 : Int32))), (2, .inl ((11 : Int32)))]) [2, 1, 0] rfl ?_
  exact (s_X8_weigh_L5 1000000).1 x0 (1 : Int32) (11 : Int32) σ
def f_X8_append_24 (x0 : Nat) (x1 : Int32) (σ : eMem) : Option (Int32 × eMem) :=
  if (KH x0).1 = 7 then
    if (KH (RH x0 4)).1 = 11 ∧ eix x1 (KH (RH x0 4)).2 = true then
      some ((σ.1 (RH x0 4) x1.toNatClampNeg), σ)
    else none
  else none
set_option maxHeartbeats 4000000 in
set_option maxRecDepth 20000 in
theorem s_X8_append_24 (x0 : Nat) (x1 : Int32) (σ : eMem) : Snd false none 2 m_X8_append (f_X8_append_24 x0 x1 σ) (cN iI) (24, [(0, .inr (.inr (x0))), (1, .inl (x1))], [], hp σ, 0, 0) := by
  unfold f_X8_append_24
  refine T_go (S' := (25, [(0, .inr (.inr (x0))), (1, .inl (x1))], [.inr (.inr (x0))], hp σ, 0, 0)) 1 rfl ?_
  refine T_getR rfl (fun _ => ?_)
  refine T_go (S' := (29, [(0, .inr (.inr (x0))), (1, .inl (x1))], [.inl (x1), .inr (.inr ((RH x0 4)))], hp σ, 0, 0)) 1 rfl ?_
  refine T_iald rfl (fun _ => ?_)
  exact T_ret rfl
def f_X8_append (x0 : Nat) (x1 : Int32) (x2 : Int32) (x3 : Int32) (x4 : Int32) (σ : eMem) : Option (Int32 × eMem) :=
  if (KH x0).1 = 7 then
    if (KH (RH x0 4)).1 = 11 ∧ eix x1 (KH (RH x0 4)).2 = true then
      eLet (((x1 * (4 : Int32)) + (σ.1 (RH x0 4) x1.toNatClampNeg)) : Int32) (fun v1 =>
        if v1 < (0 : Int32) then
          f_X8_append_24 x0 x1 σ
        else
          if v1 < (12 : Int32) then
            if (KH x0).1 = 7 then
              if (KH (RH x0 0)).1 = 11 ∧ eix v1 (KH (RH x0 0)).2 = true then eLet ((eup σ.1 (RH x0 0) v1.toNatClampNeg x2, σ.2) : eMem) (fun σ2 =>
                if (KH x0).1 = 7 then
                  if (KH (RH x0 1)).1 = 11 ∧ eix v1 (KH (RH x0 1)).2 = true then eLet ((eup σ2.1 (RH x0 1) v1.toNatClampNeg x3, σ2.2) : eMem) (fun σ3 =>
                    if (KH x0).1 = 7 then
                      if (KH (RH x0 2)).1 = 11 ∧ eix v1 (KH (RH x0 2)).2 = true then eLet ((eup σ3.1 (RH x0 2) v1.toNatClampNeg x4, σ3.2) : eMem) (fun σ4 =>
                        if (KH x0).1 = 7 then
                          if (KH (RH x0 4)).1 = 11 ∧ eix x1 (KH (RH x0 4)).2 = true then
                            if (KH (RH x0 4)).1 = 11 ∧ eix x1 (KH (RH x0 4)).2 = true then eLet ((eup σ4.1 (RH x0 4) x1.toNatClampNeg ((σ4.1 (RH x0 4) x1.toNatClampNeg) + (1 : Int32)), σ4.2) : eMem) (fun σ5 =>
                              if (KH x0).1 = 7 then
                                Option.bind (f_X8_weigh x0 σ5) (fun r6 =>
                                  if (KH x0).1 = 7 then
                                    if (KH (RH x0 4)).1 = 11 ∧ eix x1 (KH (RH x0 4)).2 = true then
                                      some ((r6.2.1 (RH x0 4) x1.toNatClampNeg), r6.2)
                                    else none
                                  else none
                                  )
                              else none
                              ) else none
                          else none
                        else none
                        ) else none
                    else none
                    ) else none
                else none
                ) else none
            else none
          else
            f_X8_append_24 x0 x1 σ
        )
    else none
  else none
set_option maxHeartbeats 4000000 in
set_option maxRecDepth 20000 in
theorem s_X8_append (x0 : Nat) (x1 : Int32) (x2 : Int32) (x3 : Int32) (x4 : Int32) (σ : eMem) : ∀ r, f_X8_append x0 x1 x2 x3 x4 σ = some r → Ew false 3 75 [.inr (.inr (x0)), .inl (x1), .inl (x2), .inl (x3), .inl (x4)] (hp σ) (cN iI r) := by
  refine T_meth (md := m_X8_append) (d0 := 2) (cv := (cN iI)) rfl (lb rfl) (lb rfl) ?_
  unfold f_X8_append
  show Snd false none _ _ _ _ (0, [(0, .inr (.inr (x0))), (1, .inl (x1)), (2, .inl (x2)), (3, .inl (x3)), (4, .inl (x4))], [], hp σ, 0, 0)
  refine T_go (S' := (4, [(0, .inr (.inr (x0))), (1, .inl (x1)), (2, .inl (x2)), (3, .inl (x3)), (4, .inl (x4))], [.inr (.inr (x0)), .inl ((x1 * (4 : Int32)))], hp σ, 0, 0)) 4 rfl ?_
  refine T_getR rfl (fun _ => ?_)
  refine T_go (S' := (8, [(0, .inr (.inr (x0))), (1, .inl (x1)), (2, .inl (x2)), (3, .inl (x3)), (4, .inl (x4))], [.inl (x1), .inr (.inr ((RH x0 4))), .inl ((x1 * (4 : Int32)))], hp σ, 0, 0)) 1 rfl ?_
  refine T_iald rfl (fun _ => ?_)
  refine T_go (S' := (12, [(5, .inl (((x1 * (4 : Int32)) + (σ.1 (RH x0 4) x1.toNatClampNeg)))), (0, .inr (.inr (x0))), (1, .inl (x1)), (2, .inl (x2)), (3, .inl (x3)), (4, .inl (x4))], [], hp σ, 0, 0)) 2 rfl ?_
  refine T_let (Sf := fun v1 => (12, [(5, .inl (v1)), (0, .inr (.inr (x0))), (1, .inl (x1)), (2, .inl (x2)), (3, .inl (x3)), (4, .inl (x4))], [], hp σ, 0, 0)) (fun v1 => ?_)
  refine T_go (S' := (14, [(5, .inl (v1)), (0, .inr (.inr (x0))), (1, .inl (x1)), (2, .inl (x2)), (3, .inl (x3)), (4, .inl (x4))], [.inl (v1)], hp σ, 0, 0)) 1 rfl ?_
  refine T_if_lt 24 rfl rfl (fun _ => ?_) (fun _ => ?_)
  · refine T_loc (ls' := [(0, .inr (.inr (x0))), (1, .inl (x1))]) [1, 2] rfl ?_
    exact s_X8_append_24 x0 x1 σ
  · refine T_go (S' := (21, [(5, .inl (v1)), (0, .inr (.inr (x0))), (1, .inl (x1)), (2, .inl (x2)), (3, .inl (x3)), (4, .inl (x4))], [.inl ((12 : Int32)), .inl (v1)], hp σ, 0, 0)) 2 rfl ?_
    refine T_icmp_lt 31 rfl rfl (fun _ => ?_) (fun _ => ?_)
    · refine T_go (S' := (32, [(5, .inl (v1)), (0, .inr (.inr (x0))), (1, .inl (x1)), (2, .inl (x2)), (3, .inl (x3)), (4, .inl (x4))], [.inr (.inr (x0))], hp σ, 0, 0)) 1 rfl ?_
      refine T_getR rfl (fun _ => ?_)
      refine T_go (S' := (38, [(5, .inl (v1)), (0, .inr (.inr (x0))), (1, .inl (x1)), (2, .inl (x2)), (3, .inl (x3)), (4, .inl (x4))], [.inl (x2), .inl (v1), .inr (.inr ((RH x0 0)))], hp σ, 0, 0)) 2 rfl ?_
      refine T_iast rfl (fun _ => ?_)
      refine T_let (Sf := fun σ2 => (39, [(5, .inl (v1)), (0, .inr (.inr (x0))), (1, .inl (x1)), (2, .inl (x2)), (3, .inl (x3)), (4, .inl (x4))], [], hp σ2, 0, 0)) (fun σ2 => ?_)
      refine T_go (S' := (40, [(5, .inl (v1)), (0, .inr (.inr (x0))), (1, .inl (x1)), (2, .inl (x2)), (3, .inl (x3)), (4, .inl (x4))], [.inr (.inr (x0))], hp σ2, 0, 0)) 1 rfl ?_
      refine T_getR rfl (fun _ => ?_)
      refine T_go (S' := (46, [(5, .inl (v1)), (0, .inr (.inr (x0))), (1, .inl (x1)), (2, .inl (x2)), (3, .inl (x3)), (4, .inl (x4))], [.inl (x3), .inl (v1), .inr (.inr ((RH x0 1)))], hp σ2, 0, 0)) 2 rfl ?_
      refine T_iast rfl (fun _ => ?_)
      refine T_let (Sf := fun σ3 => (47, [(5, .inl (v1)), (0, .inr (.inr (x0))), (1, .inl (x1)), (2, .inl (x2)), (3, .inl (x3)), (4, .inl (x4))], [], hp σ3, 0, 0)) (fun σ3 => ?_)
      refine T_go (S' := (48, [(5, .inl (v1)), (0, .inr (.inr (x0))), (1, .inl (x1)), (2, .inl (x2)), (3, .inl (x3)), (4, .inl (x4))], [.inr (.inr (x0))], hp σ3, 0, 0)) 1 rfl ?_
      refine T_getR rfl (fun _ => ?_)
      refine T_go (S' := (55, [(5, .inl (v1)), (0, .inr (.inr (x0))), (1, .inl (x1)), (2, .inl (x2)), (3, .inl (x3)), (4, .inl (x4))], [.inl (x4), .inl (v1), .inr (.inr ((RH x0 2)))], hp σ3, 0, 0)) 2 rfl ?_
      refine T_iast rfl (fun _ => ?_)
      refine T_let (Sf := fun σ4 => (56, [(5, .inl (v1)), (0, .inr (.inr (x0))), (1, .inl (x1)), (2, .inl (x2)), (3, .inl (x3)), (4, .inl (x4))], [], hp σ4, 0, 0)) (fun σ4 => ?_)
      refine T_go (S' := (57, [(5, .inl (v1)), (0, .inr (.inr (x0))), (1, .inl (x1)), (2, .inl (x2)), (3, .inl (x3)), (4, .inl (x4))], [.inr (.inr (x0))], hp σ4, 0, 0)) 1 rfl ?_
      refine T_getR rfl (fun _ => ?_)
      refine T_go (S' := (62, [(5, .inl (v1)), (0, .inr (.inr (x0))), (1, .inl (x1)), (2, .inl (x2)), (3, .inl (x3)), (4, .inl (x4))], [.inl (x1), .inr (.inr ((RH x0 4))), .inl (x1), .inr (.inr ((RH x0 4)))], hp σ4, 0, 0)) 2 rfl ?_
      refine T_iald rfl (fun _ => ?_)
      refine T_go (S' := (65, [(5, .inl (v1)), (0, .inr (.inr (x0))), (1, .inl (x1)), (2, .inl (x2)), (3, .inl (x3)), (4, .inl (x4))], [.inl (((σ4.1 (RH x0 4) x1.toNatClampNeg) + (1 : Int32))), .inl (x1), .inr (.inr ((RH x0 4)))], hp σ4, 0, 0)) 2 rfl ?_
      refine T_iast rfl (fun _ => ?_)
      refine T_let (Sf := fun σ5 => (66, [(5, .inl (v1)), (0, .inr (.inr (x0))), (1, .inl (x1)), (2, .inl (x2)), (3, .inl (x3)), (4, .inl (x4))], [], hp σ5, 0, 0)) (fun σ5 => ?_)
      refine T_go (S' := (67, [(5, .inl (v1)), (0, .inr (.inr (x0))), (1, .inl (x1)), (2, .inl (x2)), (3, .inl (x3)), (4, .inl (x4))], [.inr (.inr (x0))], hp σ5, 0, 0)) 1 rfl ?_
      refine T_cv (i := iU) (as := [.inr (.inr (x0))]) (rest := []) (st := [.inr (.inr (x0))]) rfl rfl rfl ⟨lb rfl, lb rfl, lb rfl, lb rfl⟩ (fun _ h => Ew_le (lb rfl) (s_X8_weigh x0 σ5 _ h)) (fun _ r6 => ?_)
      show Snd false none _ _ _ (cN iI) (70, [(5, .inl (v1)), (0, .inr (.inr (x0))), (1, .inl (x1)), (2, .inl (x2)), (3, .inl (x3)), (4, .inl (x4))], [], hp r6.2, 0, 0)
      refine T_go (S' := (71, [(5, .inl (v1)), (0, .inr (.inr (x0))), (1, .inl (x1)), (2, .inl (x2)), (3, .inl (x3)), (4, .inl (x4))], [.inr (.inr (x0))], hp r6.2, 0, 0)) 1 rfl ?_
      refine T_getR rfl (fun _ => ?_)
      refine T_go (S' := (75, [(5, .inl (v1)), (0, .inr (.inr (x0))), (1, .inl (x1)), (2, .inl (x2)), (3, .inl (x3)), (4, .inl (x4))], [.inl (x1), .inr (.inr ((RH x0 4)))], hp r6.2, 0, 0)) 1 rfl ?_
      refine T_iald rfl (fun _ => ?_)
      exact T_ret rfl
    · refine T_loc (ls' := [(0, .inr (.inr (x0))), (1, .inl (x1))]) [1, 2] rfl ?_
      exact s_X8_append_24 x0 x1 σ
def f_X8_empty_7 : Nat → Nat → Int32 → Int32 → eMem → Option (Int32 × eMem)
  | 0, _, _, _, _ => none
  | n + 1, x0, x1, x2, σ =>
    if (3 : Int32) ≤ x2 then
      some (x1, σ)
    else
      if (KH x0).1 = 7 then
        if (KH (RH x0 4)).1 = 11 ∧ eix x2 (KH (RH x0 4)).2 = true then eLet ((eup σ.1 (RH x0 4) x2.toNatClampNeg (0 : Int32), σ.2) : eMem) (fun σ1 =>
          f_X8_empty_7 n x0 x1 (x2 + (1 : Int32)) σ1
          ) else none
      else none
set_option maxHeartbeats 4000000 in
set_option maxRecDepth 20000 in
theorem s_X8_empty_7 : ∀ (n : Nat) (x0 : Nat) (x1 : Int32) (x2 : Int32) (σ : eMem), Snd false none 1 m_X8_empty (f_X8_empty_7 n x0 x1 x2 σ) (cN iI) (7, [(0, .inr (.inr (x0))), (1, .inl (x1)), (2, .inl (x2))], [], hp σ, 0, 0) := by
  intro n
  induction n with
  | zero => exact fun _ _ _ _ => T_none
  | succ n ih =>
    intro x0 x1 x2 σ
    unfold f_X8_empty_7
    refine T_go (S' := (9, [(0, .inr (.inr (x0))), (1, .inl (x1)), (2, .inl (x2))], [.inl ((3 : Int32)), .inl (x2)], hp σ, 0, 0)) 2 rfl ?_
    refine T_icmp_ge 25 rfl rfl (fun _ => ?_) (fun _ => ?_)
    · refine T_go (S' := (26, [(0, .inr (.inr (x0))), (1, .inl (x1)), (2, .inl (x2))], [.inl (x1)], hp σ, 0, 0)) 1 rfl ?_
      exact T_ret rfl
    · refine T_go (S' := (13, [(0, .inr (.inr (x0))), (1, .inl (x1)), (2, .inl (x2))], [.inr (.inr (x0))], hp σ, 0, 0)) 1 rfl ?_
      refine T_getR rfl (fun _ => ?_)
      refine T_go (S' := (18, [(0, .inr (.inr (x0))), (1, .inl (x1)), (2, .inl (x2))], [.inl ((0 : Int32)), .inl (x2), .inr (.inr ((RH x0 4)))], hp σ, 0, 0)) 2 rfl ?_
      refine T_iast rfl (fun _ => ?_)
      refine T_let (Sf := fun σ1 => (19, [(0, .inr (.inr (x0))), (1, .inl (x1)), (2, .inl (x2))], [], hp σ1, 0, 0)) (fun σ1 => ?_)
      refine T_go (S' := (7, [(2, .inl ((x2 + (1 : Int32)))), (0, .inr (.inr (x0))), (1, .inl (x1))], [], hp σ1, 0, 0)) 2 rfl ?_
      refine T_loc (ls' := [(0, .inr (.inr (x0))), (1, .inl (x1)), (2, .inl ((x2 + (1 : Int32))))]) [1, 2, 0] rfl ?_
      exact ih x0 x1 (x2 + (1 : Int32)) σ1
def f_X8_empty (x0 : Nat) (σ : eMem) : Option (Int32 × eMem) :=
  if (KH x0).1 = 7 then
    Option.bind (f_X8_total x0 σ) (fun r1 =>
      f_X8_empty_7 1000000 x0 r1.1 (0 : Int32) r1.2
      )
  else none
set_option maxHeartbeats 4000000 in
set_option maxRecDepth 20000 in
theorem s_X8_empty (x0 : Nat) (σ : eMem) : ∀ r, f_X8_empty x0 σ = some r → Ew false 2 76 [.inr (.inr (x0))] (hp σ) (cN iI r) := by
  refine T_meth (md := m_X8_empty) (d0 := 1) (cv := (cN iI)) rfl (lb rfl) (lb rfl) ?_
  unfold f_X8_empty
  show Snd false none _ _ _ _ (0, [(0, .inr (.inr (x0)))], [], hp σ, 0, 0)
  refine T_go (S' := (1, [(0, .inr (.inr (x0)))], [.inr (.inr (x0))], hp σ, 0, 0)) 1 rfl ?_
  refine T_cv (i := iI) (as := [.inr (.inr (x0))]) (rest := []) (st := [.inr (.inr (x0))]) rfl rfl rfl ⟨lb rfl, lb rfl, lb rfl, lb rfl⟩ (fun _ h => Ew_le (lb rfl) (s_X8_total x0 σ _ h)) (fun _ r1 => ?_)
  show Snd false none _ _ _ (cN iI) (4, [(0, .inr (.inr (x0)))], [.inl (r1.1)], hp r1.2, 0, 0)
  refine T_go (S' := (7, [(2, .inl ((0 : Int32))), (1, .inl (r1.1)), (0, .inr (.inr (x0)))], [], hp r1.2, 0, 0)) 3 rfl ?_
  refine T_loc (ls' := [(0, .inr (.inr (x0))), (1, .inl (r1.1)), (2, .inl ((0 : Int32)))]) [2, 1, 0] rfl ?_
  exact s_X8_empty_7 1000000 x0 r1.1 (0 : Int32) r1.2
def f_X9_part (x0 : Int64) (x2 : Int32) (σ : eMem) : Option (Int32 × eMem) :=
  some ((((x0 >>> (((4 : Int32) * x2).toInt64 &&& 63)).toInt32) &&& (15 : Int32)), σ)
set_option maxHeartbeats 4000000 in
set_option maxRecDepth 20000 in
theorem s_X9_part (x0 : Int64) (x2 : Int32) (σ : eMem) : ∀ r, f_X9_part x0 x2 σ = some r → Ew false 1 80 [.inr (.inl (x0)), .inl (x2)] (hp σ) (cN iI r) := by
  refine T_meth (md := m_X9_part) (d0 := 0) (cv := (cN iI)) rfl (lb rfl) (lb rfl) ?_
  unfold f_X9_part
  show Snd false none _ _ _ _ (0, [(0, .inr (.inl (x0))), (2, .inl (x2))], [], hp σ, 0, 0)
  refine T_go (S' := (9, [(0, .inr (.inl (x0))), (2, .inl (x2))], [.inl ((((x0 >>> (((4 : Int32) * x2).toInt64 &&& 63)).toInt32) &&& (15 : Int32)))], hp σ, 0, 0)) 8 rfl ?_
  exact T_ret rfl
def f_X9_with (x0 : Int64) (x2 : Int32) (x3 : Int32) (σ : eMem) : Option (Int64 × eMem) :=
  eLet (((4 : Int32) * x2) : Int32) (fun v1 =>
    some (((x0 &&& (((15 : Int64) <<< (v1.toInt64 &&& 63)) ^^^ (-1 : Int64))) ||| ((x3.toInt64 &&& (15 : Int64)) <<< (v1.toInt64 &&& 63))), σ)
    )
set_option maxHeartbeats 4000000 in
set_option maxRecDepth 20000 in
theorem s_X9_with (x0 : Int64) (x2 : Int32) (x3 : Int32) (σ : eMem) : ∀ r, f_X9_with x0 x2 x3 σ = some r → Ew false 1 81 [.inr (.inl (x0)), .inl (x2), .inl (x3)] (hp σ) (cN iJ r) := by
  refine T_meth (md := m_X9_with) (d0 := 0) (cv := (cN iJ)) rfl (lb rfl) (lb rfl) ?_
  unfold f_X9_with
  show Snd false none _ _ _ _ (0, [(0, .inr (.inl (x0))), (2, .inl (x2)), (3, .inl (x3))], [], hp σ, 0, 0)
  refine T_go (S' := (5, [(4, .inl (((4 : Int32) * x2))), (0, .inr (.inl (x0))), (2, .inl (x2)), (3, .inl (x3))], [], hp σ, 0, 0)) 4 rfl ?_
  refine T_let (Sf := fun v1 => (5, [(4, .inl (v1)), (0, .inr (.inl (x0))), (2, .inl (x2)), (3, .inl (x3))], [], hp σ, 0, 0)) (fun v1 => ?_)
  refine T_go (S' := (27, [(4, .inl (v1)), (0, .inr (.inl (x0))), (2, .inl (x2)), (3, .inl (x3))], [.inr (.inl (((x0 &&& (((15 : Int64) <<< (v1.toInt64 &&& 63)) ^^^ (-1 : Int64))) ||| ((x3.toInt64 &&& (15 : Int64)) <<< (v1.toInt64 &&& 63)))))], hp σ, 0, 0)) 14 rfl ?_
  exact T_ret rfl
def f_X9_nextSlot_30 (s0 : Int32) (σ : eMem) : Option (Int32 × eMem) :=
  some (s0, σ)
set_option maxHeartbeats 4000000 in
set_option maxRecDepth 20000 in
theorem s_X9_nextSlot_30 (s0 : Int32) (σ : eMem) : Snd false none 1 m_X9_nextSlot (f_X9_nextSlot_30 s0 σ) (cN iI) (30, [], [.inl (s0)], hp σ, 0, 0) := by
  unfold f_X9_nextSlot_30
  exact T_ret rfl
def f_X9_nextSlot (x0 : Nat) (x1 : Int64) (x3 : Int32) (σ : eMem) : Option (Int32 × eMem) :=
  Option.bind (f_X9_part x1 ((0 : Int32) + x3) σ) (fun r1 =>
    if (KH x0).1 = 7 then
      if (KH (RH x0 4)).1 = 11 ∧ eix x3 (KH (RH x0 4)).2 = true then
        if (r1.2.1 (RH x0 4) x3.toNatClampNeg) ≤ r1.1 then
          f_X9_nextSlot_30 (-1 : Int32) r1.2
        else
          f_X9_nextSlot_30 ((x3 * (4 : Int32)) + r1.1) r1.2
      else none
    else none
    )
set_option maxHeartbeats 4000000 in
set_option maxRecDepth 20000 in
theorem s_X9_nextSlot (x0 : Nat) (x1 : Int64) (x3 : Int32) (σ : eMem) : ∀ r, f_X9_nextSlot x0 x1 x3 σ = some r → Ew false 2 83 [.inr (.inr (x0)), .inr (.inl (x1)), .inl (x3)] (hp σ) (cN iI r) := by
  refine T_meth (md := m_X9_nextSlot) (d0 := 1) (cv := (cN iI)) rfl (lb rfl) (lb rfl) ?_
  unfold f_X9_nextSlot
  show Snd false none _ _ _ _ (0, [(0, .inr (.inr (x0))), (1, .inr (.inl (x1))), (3, .inl (x3))], [], hp σ, 0, 0)
  refine T_go (S' := (4, [(0, .inr (.inr (x0))), (1, .inr (.inl (x1))), (3, .inl (x3))], [.inl (((0 : Int32) + x3)), .inr (.inl (x1))], hp σ, 0, 0)) 4 rfl ?_
  refine T_cs (i := iI) (as := [.inr (.inl (x1)), .inl (((0 : Int32) + x3))]) (rest := []) (st := [.inl (((0 : Int32) + x3)), .inr (.inl (x1))]) rfl (lb rfl) rfl rfl ⟨lb rfl, lb rfl, lb rfl, lb rfl⟩ (fun _ h => Ew_le (lb rfl) (s_X9_part x1 ((0 : Int32) + x3) σ _ h)) (fun r1 => ?_)
  show Snd false none _ _ _ (cN iI) (7, [(0, .inr (.inr (x0))), (1, .inr (.inl (x1))), (3, .inl (x3))], [.inl (r1.1)], hp r1.2, 0, 0)
  refine T_go (S' := (12, [(4, .inl (r1.1)), (0, .inr (.inr (x0))), (1, .inr (.inl (x1))), (3, .inl (x3))], [.inr (.inr (x0)), .inl (r1.1)], hp r1.2, 0, 0)) 3 rfl ?_
  refine T_getR rfl (fun _ => ?_)
  refine T_go (S' := (16, [(4, .inl (r1.1)), (0, .inr (.inr (x0))), (1, .inr (.inl (x1))), (3, .inl (x3))], [.inl (x3), .inr (.inr ((RH x0 4))), .inl (r1.1)], hp r1.2, 0, 0)) 1 rfl ?_
  refine T_iald rfl (fun _ => ?_)
  refine T_icmp_ge 29 rfl rfl (fun _ => ?_) (fun _ => ?_)
  · refine T_go (S' := (30, [(4, .inl (r1.1)), (0, .inr (.inr (x0))), (1, .inr (.inl (x1))), (3, .inl (x3))], [.inl ((-1 : Int32))], hp r1.2, 0, 0)) 1 rfl ?_
    refine T_loc (ls' := []) [] rfl ?_
    exact s_X9_nextSlot_30 (-1 : Int32) r1.2
  · refine T_go (S' := (30, [(4, .inl (r1.1)), (0, .inr (.inr (x0))), (1, .inr (.inl (x1))), (3, .inl (x3))], [.inl (((x3 * (4 : Int32)) + r1.1))], hp r1.2, 0, 0)) 6 rfl ?_
    refine T_loc (ls' := []) [] rfl ?_
    exact s_X9_nextSlot_30 ((x3 * (4 : Int32)) + r1.1) r1.2
def f_X9_threadAtStore_L2 : Nat → (Nat × Int64 × Int32 ⊕ (Nat × Int64 × Int32)) → eMem → Option (Int32 × eMem)
  | 0, _, _ => none
  | n + 1, .inl (x0, x1, x3), σ =>
    if (3 : Int32) ≤ x3 then
      some ((-1 : Int32), σ)
    else
      Option.bind (f_X9_nextSlot x0 x1 x3 σ) (fun r1 =>
        if r1.1 = (-1 : Int32) then
          f_X9_threadAtStore_L2 n (.inr ((x0, x1, x3))) r1.2
        else
          if (KH x0).1 = 7 then
            if (KH (RH x0 0)).1 = 11 ∧ eix r1.1 (KH (RH x0 0)).2 = true then
              if ¬ (r1.2.1 (RH x0 0) r1.1.toNatClampNeg) = (0 : Int32) then
                f_X9_threadAtStore_L2 n (.inr ((x0, x1, x3))) r1.2
              else
                some (x3, r1.2)
            else none
          else none
        )
  | n + 1, .inr ((x0, x1, x3)), σ =>
    f_X9_threadAtStore_L2 n (.inl (x0, x1, (x3 + (1 : Int32)))) σ
set_option maxHeartbeats 4000000 in
set_option maxRecDepth 20000 in
theorem s_X9_threadAtStore_L2 : ∀ (n : Nat), (∀ (x0 : Nat) (x1 : Int64) (x3 : Int32) (σ : eMem), Snd false none 2 m_X9_threadAtStore (f_X9_threadAtStore_L2 n (.inl (x0, x1, x3)) σ) (cN iI) (2, [(0, .inr (.inr (x0))), (1, .inr (.inl (x1))), (3, .inl (x3))], [], hp σ, 0, 0)) ∧ (∀ (x0 : Nat) (x1 : Int64) (x3 : Int32) (σ : eMem), Snd false none 2 m_X9_threadAtStore (f_X9_threadAtStore_L2 n (.inr ((x0, x1, x3))) σ) (cN iI) (33, [(0, .inr (.inr (x0))), (1, .inr (.inl (x1))), (3, .inl (x3))], [], hp σ, 0, 0)) := by
  intro n
  induction n with
  | zero => exact ⟨fun _ _ _ _ => T_none, fun _ _ _ _ => T_none⟩
  | succ n ih =>
    refine ⟨?_, ?_⟩
    · intro x0 x1 x3 σ
      unfold f_X9_threadAtStore_L2
      refine T_go (S' := (4, [(0, .inr (.inr (x0))), (1, .inr (.inl (x1))), (3, .inl (x3))], [.inl ((3 : Int32)), .inl (x3)], hp σ, 0, 0)) 2 rfl ?_
      refine T_icmp_ge 39 rfl rfl (fun _ => ?_) (fun _ => ?_)
      · refine T_go (S' := (40, [(0, .inr (.inr (x0))), (1, .inr (.inl (x1))), (3, .inl (x3))], [.inl ((-1 : Int32))], hp σ, 0, 0)) 1 rfl ?_
        exact T_ret rfl
      · refine T_go (S' := (10, [(0, .inr (.inr (x0))), (1, .inr (.inl (x1))), (3, .inl (x3))], [.inl (x3), .inr (.inl (x1)), .inr (.inr (x0))], hp σ, 0, 0)) 3 rfl ?_
        refine T_cs (i := iI) (as := [.inr (.inr (x0)), .inr (.inl (x1)), .inl (x3)]) (rest := []) (st := [.inl (x3), .inr (.inl (x1)), .inr (.inr (x0))]) rfl (lb rfl) rfl rfl ⟨lb rfl, lb rfl, lb rfl, lb rfl⟩ (fun _ h => Ew_le (lb rfl) (s_X9_nextSlot x0 x1 x3 σ _ h)) (fun r1 => ?_)
        show Snd false none _ _ _ (cN iI) (13, [(0, .inr (.inr (x0))), (1, .inr (.inl (x1))), (3, .inl (x3))], [.inl (r1.1)], hp r1.2, 0, 0)
        refine T_go (S' := (18, [(4, .inl (r1.1)), (0, .inr (.inr (x0))), (1, .inr (.inl (x1))), (3, .inl (x3))], [.inl ((-1 : Int32)), .inl (r1.1)], hp r1.2, 0, 0)) 3 rfl ?_
        refine T_icmp_eq 33 rfl rfl (fun _ => ?_) (fun _ => ?_)
        · refine T_loc (ls' := [(0, .inr (.inr (x0))), (1, .inr (.inl (x1))), (3, .inl (x3))]) [1, 2, 3] rfl ?_
          exact (ih.2) x0 x1 x3 r1.2
        · refine T_go (S' := (22, [(4, .inl (r1.1)), (0, .inr (.inr (x0))), (1, .inr (.inl (x1))), (3, .inl (x3))], [.inr (.inr (x0))], hp r1.2, 0, 0)) 1 rfl ?_
          refine T_getR rfl (fun _ => ?_)
          refine T_go (S' := (27, [(4, .inl (r1.1)), (0, .inr (.inr (x0))), (1, .inr (.inl (x1))), (3, .inl (x3))], [.inl (r1.1), .inr (.inr ((RH x0 0)))], hp r1.2, 0, 0)) 1 rfl ?_
          refine T_iald rfl (fun _ => ?_)
          refine T_if_ne 33 rfl rfl (fun _ => ?_) (fun _ => ?_)
          · refine T_loc (ls' := [(0, .inr (.inr (x0))), (1, .inr (.inl (x1))), (3, .inl (x3))]) [1, 2, 3] rfl ?_
            exact (ih.2) x0 x1 x3 r1.2
          · refine T_go (S' := (32, [(4, .inl (r1.1)), (0, .inr (.inr (x0))), (1, .inr (.inl (x1))), (3, .inl (x3))], [.inl (x3)], hp r1.2, 0, 0)) 1 rfl ?_
            exact T_ret rfl
    · intro x0 x1 x3 σ
      unfold f_X9_threadAtStore_L2
      refine T_go (S' := (2, [(3, .inl ((x3 + (1 : Int32)))), (0, .inr (.inr (x0))), (1, .inr (.inl (x1)))], [], hp σ, 0, 0)) 2 rfl ?_
      refine T_loc (ls' := [(0, .inr (.inr (x0))), (1, .inr (.inl (x1))), (3, .inl ((x3 + (1 : Int32))))]) [1, 2, 0] rfl ?_
      exact (ih.1) x0 x1 (x3 + (1 : Int32)) σ
def f_X9_threadAtStore (x0 : Nat) (x1 : Int64) (σ : eMem) : Option (Int32 × eMem) :=
  f_X9_threadAtStore_L2 1000000 (.inl (x0, x1, (0 : Int32))) σ
set_option maxHeartbeats 4000000 in
set_option maxRecDepth 20000 in
theorem s_X9_threadAtStore (x0 : Nat) (x1 : Int64) (σ : eMem) : ∀ r, f_X9_threadAtStore x0 x1 σ = some r → Ew false 3 84 [.inr (.inr (x0)), .inr (.inl (x1))] (hp σ) (cN iI r) := by
  refine T_meth (md := m_X9_threadAtStore) (d0 := 2) (cv := (cN iI)) rfl (lb rfl) (lb rfl) ?_
  unfold f_X9_threadAtStore
  show Snd false none _ _ _ _ (0, [(0, .inr (.inr (x0))), (1, .inr (.inl (x1)))], [], hp σ, 0, 0)
  refine T_go (S' := (2, [(3, .inl ((0 : Int32))), (0, .inr (.inr (x0))), (1, .inr (.inl (x1)))], [], hp σ, 0, 0)) 2 rfl ?_
  refine T_loc (ls' := [(0, .inr (.inr (x0))), (1, .inr (.inl (x1))), (3, .inl ((0 : Int32)))]) [1, 2, 0] rfl ?_
  exact (s_X9_threadAtStore_L2 1000000).1 x0 x1 (0 : Int32) σ
def f_X9_oldestBuffered_22 : Nat → Nat → Int32 → Int32 → Int32 → eMem → Option (Int32 × eMem)
  | 0, _, _, _, _, _ => none
  | n + 1, x0, x3, x4, x5, σ =>
    if x4 ≤ x5 then
      some ((-1 : Int32), σ)
    else
      if (KH x0).1 = 7 then
        if (KH (RH x0 0)).1 = 11 ∧ eix ((x3 * (4 : Int32)) + x5) (KH (RH x0 0)).2 = true then
          if ¬ (σ.1 (RH x0 0) ((x3 * (4 : Int32)) + x5).toNatClampNeg) = (0 : Int32) then
            f_X9_oldestBuffered_22 n x0 x3 x4 (x5 + (1 : Int32)) σ
          else
            some (((x3 * (4 : Int32)) + x5), σ)
        else none
      else none
set_option maxHeartbeats 4000000 in
set_option maxRecDepth 20000 in
theorem s_X9_oldestBuffered_22 : ∀ (n : Nat) (x0 : Nat) (x3 : Int32) (x4 : Int32) (x5 : Int32) (σ : eMem), Snd false none 1 m_X9_oldestBuffered (f_X9_oldestBuffered_22 n x0 x3 x4 x5 σ) (cN iI) (22, [(0, .inr (.inr (x0))), (3, .inl (x3)), (4, .inl (x4)), (5, .inl (x5))], [], hp σ, 0, 0) := by
  intro n
  induction n with
  | zero => exact fun _ _ _ _ _ => T_none
  | succ n ih =>
    intro x0 x3 x4 x5 σ
    unfold f_X9_oldestBuffered_22
    refine T_go (S' := (26, [(0, .inr (.inr (x0))), (3, .inl (x3)), (4, .inl (x4)), (5, .inl (x5))], [.inl (x4), .inl (x5)], hp σ, 0, 0)) 2 rfl ?_
    refine T_icmp_ge 56 rfl rfl (fun _ => ?_) (fun _ => ?_)
    · refine T_go (S' := (57, [(0, .inr (.inr (x0))), (3, .inl (x3)), (4, .inl (x4)), (5, .inl (x5))], [.inl ((-1 : Int32))], hp σ, 0, 0)) 1 rfl ?_
      exact T_ret rfl
    · refine T_go (S' := (30, [(0, .inr (.inr (x0))), (3, .inl (x3)), (4, .inl (x4)), (5, .inl (x5))], [.inr (.inr (x0))], hp σ, 0, 0)) 1 rfl ?_
      refine T_getR rfl (fun _ => ?_)
      refine T_go (S' := (39, [(0, .inr (.inr (x0))), (3, .inl (x3)), (4, .inl (x4)), (5, .inl (x5))], [.inl (((x3 * (4 : Int32)) + x5)), .inr (.inr ((RH x0 0)))], hp σ, 0, 0)) 5 rfl ?_
      refine T_iald rfl (fun _ => ?_)
      refine T_if_ne 50 rfl rfl (fun _ => ?_) (fun _ => ?_)
      · refine T_go (S' := (22, [(5, .inl ((x5 + (1 : Int32)))), (0, .inr (.inr (x0))), (3, .inl (x3)), (4, .inl (x4))], [], hp σ, 0, 0)) 2 rfl ?_
        refine T_loc (ls' := [(0, .inr (.inr (x0))), (3, .inl (x3)), (4, .inl (x4)), (5, .inl ((x5 + (1 : Int32))))]) [1, 2, 3, 0] rfl ?_
        exact ih x0 x3 x4 (x5 + (1 : Int32)) σ
      · refine T_go (S' := (49, [(0, .inr (.inr (x0))), (3, .inl (x3)), (4, .inl (x4)), (5, .inl (x5))], [.inl (((x3 * (4 : Int32)) + x5))], hp σ, 0, 0)) 5 rfl ?_
        exact T_ret rfl
def f_X9_oldestBuffered (x0 : Nat) (x1 : Int64) (x3 : Int32) (σ : eMem) : Option (Int32 × eMem) :=
  Option.bind (f_X9_part x1 ((0 : Int32) + x3) σ) (fun r1 =>
    eLet ((if (4 : Int32) < r1.1 then (4 : Int32) else r1.1) : Int32) (fun v2 =>
      Option.bind (f_X9_part x1 ((3 : Int32) + x3) r1.2) (fun r3 =>
        f_X9_oldestBuffered_22 1000000 x0 x3 v2 r3.1 r3.2
        )
      )
    )
set_option maxHeartbeats 4000000 in
set_option maxRecDepth 20000 in
theorem s_X9_oldestBuffered (x0 : Nat) (x1 : Int64) (x3 : Int32) (σ : eMem) : ∀ r, f_X9_oldestBuffered x0 x1 x3 σ = some r → Ew false 2 85 [.inr (.inr (x0)), .inr (.inl (x1)), .inl (x3)] (hp σ) (cN iI r) := by
  refine T_meth (md := m_X9_oldestBuffered) (d0 := 1) (cv := (cN iI)) rfl (lb rfl) (lb rfl) ?_
  unfold f_X9_oldestBuffered
  show Snd false none _ _ _ _ (0, [(0, .inr (.inr (x0))), (1, .inr (.inl (x1))), (3, .inl (x3))], [], hp σ, 0, 0)
  refine T_go (S' := (4, [(0, .inr (.inr (x0))), (1, .inr (.inl (x1))), (3, .inl (x3))], [.inl (((0 : Int32) + x3)), .inr (.inl (x1))], hp σ, 0, 0)) 4 rfl ?_
  refine T_cs (i := iI) (as := [.inr (.inl (x1)), .inl (((0 : Int32) + x3))]) (rest := []) (st := [.inl (((0 : Int32) + x3)), .inr (.inl (x1))]) rfl (lb rfl) rfl rfl ⟨lb rfl, lb rfl, lb rfl, lb rfl⟩ (fun _ h => Ew_le (lb rfl) (s_X9_part x1 ((0 : Int32) + x3) σ _ h)) (fun r1 => ?_)
  show Snd false none _ _ _ (cN iI) (7, [(0, .inr (.inr (x0))), (1, .inr (.inl (x1))), (3, .inl (x3))], [.inl (r1.1)], hp r1.2, 0, 0)
  refine T_go (S' := (8, [(0, .inr (.inr (x0))), (1, .inr (.inl (x1))), (3, .inl (x3))], [.inl ((4 : Int32)), .inl (r1.1)], hp r1.2, 0, 0)) 1 rfl ?_
  refine T_mmin (lb rfl) rfl ?_
  refine T_go (S' := (13, [(4, .inl ((if (4 : Int32) < r1.1 then (4 : Int32) else r1.1))), (0, .inr (.inr (x0))), (1, .inr (.inl (x1))), (3, .inl (x3))], [], hp r1.2, 0, 0)) 1 rfl ?_
  refine T_let (Sf := fun v2 => (13, [(4, .inl (v2)), (0, .inr (.inr (x0))), (1, .inr (.inl (x1))), (3, .inl (x3))], [], hp r1.2, 0, 0)) (fun v2 => ?_)
  refine T_go (S' := (17, [(4, .inl (v2)), (0, .inr (.inr (x0))), (1, .inr (.inl (x1))), (3, .inl (x3))], [.inl (((3 : Int32) + x3)), .inr (.inl (x1))], hp r1.2, 0, 0)) 4 rfl ?_
  refine T_cs (i := iI) (as := [.inr (.inl (x1)), .inl (((3 : Int32) + x3))]) (rest := []) (st := [.inl (((3 : Int32) + x3)), .inr (.inl (x1))]) rfl (lb rfl) rfl rfl ⟨lb rfl, lb rfl, lb rfl, lb rfl⟩ (fun _ h => Ew_le (lb rfl) (s_X9_part x1 ((3 : Int32) + x3) r1.2 _ h)) (fun r3 => ?_)
  show Snd false none _ _ _ (cN iI) (20, [(4, .inl (v2)), (0, .inr (.inr (x0))), (1, .inr (.inl (x1))), (3, .inl (x3))], [.inl (r3.1)], hp r3.2, 0, 0)
  refine T_go (S' := (22, [(5, .inl (r3.1)), (4, .inl (v2)), (0, .inr (.inr (x0))), (1, .inr (.inl (x1))), (3, .inl (x3))], [], hp r3.2, 0, 0)) 1 rfl ?_
  refine T_loc (ls' := [(0, .inr (.inr (x0))), (3, .inl (x3)), (4, .inl (v2)), (5, .inl (r3.1))]) [2, 4, 1, 0] rfl ?_
  exact s_X9_oldestBuffered_22 1000000 x0 x3 v2 r3.1 r3.2
def f_X9_resultOf_89 (x2 : Int64) (x5 : Int32) (σ : eMem) : Option (Int32 × eMem) :=
  Option.bind (f_X9_part x2 ((6 : Int32) + x5) σ) (fun r1 =>
    some (r1.1, r1.2)
    )
set_option maxHeartbeats 4000000 in
set_option maxRecDepth 20000 in
theorem s_X9_resultOf_89 (x2 : Int64) (x5 : Int32) (σ : eMem) : Snd false none 1 m_X9_resultOf (f_X9_resultOf_89 x2 x5 σ) (cN iI) (89, [(2, .inr (.inl (x2))), (5, .inl (x5))], [], hp σ, 0, 0) := by
  unfold f_X9_resultOf_89
  refine T_go (S' := (95, [(2, .inr (.inl (x2))), (5, .inl (x5))], [.inl (((6 : Int32) + x5)), .inr (.inl (x2))], hp σ, 0, 0)) 4 rfl ?_
  refine T_cs (i := iI) (as := [.inr (.inl (x2)), .inl (((6 : Int32) + x5))]) (rest := []) (st := [.inl (((6 : Int32) + x5)), .inr (.inl (x2))]) rfl (lb rfl) rfl rfl ⟨lb rfl, lb rfl, lb rfl, lb rfl⟩ (fun _ h => Ew_le (lb rfl) (s_X9_part x2 ((6 : Int32) + x5) σ _ h)) (fun r1 => ?_)
  show Snd false none _ _ _ (cN iI) (98, [(2, .inr (.inl (x2))), (5, .inl (x5))], [.inl (r1.1)], hp r1.2, 0, 0)
  exact T_ret rfl
def f_X9_resultOf_L41 : Nat → (Nat × Int64 × Int32 × Int32 × Int32 ⊕ (Nat × Int64 × Int32 × Int32 × Int32)) → eMem → Option (Int32 × eMem)
  | 0, _, _ => none
  | n + 1, .inl (x0, x2, x5, x7, x8), σ =>
    if x8 < x7 then
      f_X9_resultOf_89 x2 x5 σ
    else
      if x8 < (0 : Int32) then
        f_X9_resultOf_89 x2 x5 σ
      else
        if (KH x0).1 = 7 then
          if (KH (RH x0 0)).1 = 11 ∧ eix x8 (KH (RH x0 0)).2 = true then
            if ¬ (σ.1 (RH x0 0) x8.toNatClampNeg) = (0 : Int32) then
              f_X9_resultOf_L41 n (.inr ((x0, x2, x5, x7, x8))) σ
            else
              if (KH x0).1 = 7 then
                if (KH (RH x0 1)).1 = 11 ∧ eix x8 (KH (RH x0 1)).2 = true then
                  if ¬ (σ.1 (RH x0 1) x8.toNatClampNeg) = x5 then
                    f_X9_resultOf_L41 n (.inr ((x0, x2, x5, x7, x8))) σ
                  else
                    if (KH x0).1 = 7 then
                      if (KH (RH x0 2)).1 = 11 ∧ eix x8 (KH (RH x0 2)).2 = true then
                        some ((σ.1 (RH x0 2) x8.toNatClampNeg), σ)
                      else none
                    else none
                else none
              else none
          else none
        else none
  | n + 1, .inr ((x0, x2, x5, x7, x8)), σ =>
    f_X9_resultOf_L41 n (.inl (x0, x2, x5, x7, (x8 + (-1 : Int32)))) σ
set_option maxHeartbeats 4000000 in
set_option maxRecDepth 20000 in
theorem s_X9_resultOf_L41 : ∀ (n : Nat), (∀ (x0 : Nat) (x2 : Int64) (x5 : Int32) (x7 : Int32) (x8 : Int32) (σ : eMem), Snd false none 1 m_X9_resultOf (f_X9_resultOf_L41 n (.inl (x0, x2, x5, x7, x8)) σ) (cN iI) (41, [(0, .inr (.inr (x0))), (2, .inr (.inl (x2))), (5, .inl (x5)), (7, .inl (x7)), (8, .inl (x8))], [], hp σ, 0, 0)) ∧ (∀ (x0 : Nat) (x2 : Int64) (x5 : Int32) (x7 : Int32) (x8 : Int32) (σ : eMem), Snd false none 1 m_X9_resultOf (f_X9_resultOf_L41 n (.inr ((x0, x2, x5, x7, x8))) σ) (cN iI) (83, [(0, .inr (.inr (x0))), (2, .inr (.inl (x2))), (5, .inl (x5)), (7, .inl (x7)), (8, .inl (x8))], [], hp σ, 0, 0)) := by
  intro n
  induction n with
  | zero => exact ⟨fun _ _ _ _ _ _ => T_none, fun _ _ _ _ _ _ => T_none⟩
  | succ n ih =>
    refine ⟨?_, ?_⟩
    · intro x0 x2 x5 x7 x8 σ
      unfold f_X9_resultOf_L41
      refine T_go (S' := (45, [(0, .inr (.inr (x0))), (2, .inr (.inl (x2))), (5, .inl (x5)), (7, .inl (x7)), (8, .inl (x8))], [.inl (x7), .inl (x8)], hp σ, 0, 0)) 2 rfl ?_
      refine T_icmp_lt 89 rfl rfl (fun _ => ?_) (fun _ => ?_)
      · refine T_loc (ls' := [(2, .inr (.inl (x2))), (5, .inl (x5))]) [1, 2] rfl ?_
        exact s_X9_resultOf_89 x2 x5 σ
      · refine T_go (S' := (50, [(0, .inr (.inr (x0))), (2, .inr (.inl (x2))), (5, .inl (x5)), (7, .inl (x7)), (8, .inl (x8))], [.inl (x8)], hp σ, 0, 0)) 1 rfl ?_
        refine T_if_lt 89 rfl rfl (fun _ => ?_) (fun _ => ?_)
        · refine T_loc (ls' := [(2, .inr (.inl (x2))), (5, .inl (x5))]) [1, 2] rfl ?_
          exact s_X9_resultOf_89 x2 x5 σ
        · refine T_go (S' := (54, [(0, .inr (.inr (x0))), (2, .inr (.inl (x2))), (5, .inl (x5)), (7, .inl (x7)), (8, .inl (x8))], [.inr (.inr (x0))], hp σ, 0, 0)) 1 rfl ?_
          refine T_getR rfl (fun _ => ?_)
          refine T_go (S' := (59, [(0, .inr (.inr (x0))), (2, .inr (.inl (x2))), (5, .inl (x5)), (7, .inl (x7)), (8, .inl (x8))], [.inl (x8), .inr (.inr ((RH x0 0)))], hp σ, 0, 0)) 1 rfl ?_
          refine T_iald rfl (fun _ => ?_)
          refine T_if_ne 83 rfl rfl (fun _ => ?_) (fun _ => ?_)
          · refine T_loc (ls' := [(0, .inr (.inr (x0))), (2, .inr (.inl (x2))), (5, .inl (x5)), (7, .inl (x7)), (8, .inl (x8))]) [0, 1, 2, 3, 4] rfl ?_
            exact (ih.2) x0 x2 x5 x7 x8 σ
          · refine T_go (S' := (64, [(0, .inr (.inr (x0))), (2, .inr (.inl (x2))), (5, .inl (x5)), (7, .inl (x7)), (8, .inl (x8))], [.inr (.inr (x0))], hp σ, 0, 0)) 1 rfl ?_
            refine T_getR rfl (fun _ => ?_)
            refine T_go (S' := (69, [(0, .inr (.inr (x0))), (2, .inr (.inl (x2))), (5, .inl (x5)), (7, .inl (x7)), (8, .inl (x8))], [.inl (x8), .inr (.inr ((RH x0 1)))], hp σ, 0, 0)) 1 rfl ?_
            refine T_iald rfl (fun _ => ?_)
            refine T_go (S' := (72, [(0, .inr (.inr (x0))), (2, .inr (.inl (x2))), (5, .inl (x5)), (7, .inl (x7)), (8, .inl (x8))], [.inl (x5), .inl ((σ.1 (RH x0 1) x8.toNatClampNeg))], hp σ, 0, 0)) 1 rfl ?_
            refine T_icmp_ne 83 rfl rfl (fun _ => ?_) (fun _ => ?_)
            · refine T_loc (ls' := [(0, .inr (.inr (x0))), (2, .inr (.inl (x2))), (5, .inl (x5)), (7, .inl (x7)), (8, .inl (x8))]) [0, 1, 2, 3, 4] rfl ?_
              exact (ih.2) x0 x2 x5 x7 x8 σ
            · refine T_go (S' := (76, [(0, .inr (.inr (x0))), (2, .inr (.inl (x2))), (5, .inl (x5)), (7, .inl (x7)), (8, .inl (x8))], [.inr (.inr (x0))], hp σ, 0, 0)) 1 rfl ?_
              refine T_getR rfl (fun _ => ?_)
              refine T_go (S' := (81, [(0, .inr (.inr (x0))), (2, .inr (.inl (x2))), (5, .inl (x5)), (7, .inl (x7)), (8, .inl (x8))], [.inl (x8), .inr (.inr ((RH x0 2)))], hp σ, 0, 0)) 1 rfl ?_
              refine T_iald rfl (fun _ => ?_)
              exact T_ret rfl
    · intro x0 x2 x5 x7 x8 σ
      unfold f_X9_resultOf_L41
      refine T_go (S' := (41, [(8, .inl ((x8 + (-1 : Int32)))), (0, .inr (.inr (x0))), (2, .inr (.inl (x2))), (5, .inl (x5)), (7, .inl (x7))], [], hp σ, 0, 0)) 2 rfl ?_
      refine T_loc (ls' := [(0, .inr (.inr (x0))), (2, .inr (.inl (x2))), (5, .inl (x5)), (7, .inl (x7)), (8, .inl ((x8 + (-1 : Int32))))]) [1, 2, 3, 4, 0] rfl ?_
      exact (ih.1) x0 x2 x5 x7 (x8 + (-1 : Int32)) σ
def f_X9_resultOf (x0 : Nat) (x1 : Int32) (x2 : Int64) (x4 : Int32) (σ : eMem) : Option (Int32 × eMem) :=
  if (KH x0).1 = 7 then
    if (KH (RH x0 1)).1 = 11 ∧ eix x4 (KH (RH x0 1)).2 = true then
      eLet ((σ.1 (RH x0 1) x4.toNatClampNeg) : Int32) (fun v1 =>
        if ¬ (4 : Int32) = 0 then
          eLet ((x4 / (4 : Int32)) : Int32) (fun v2 =>
            if ¬ x1 = (1 : Int32) then
              f_X9_resultOf_89 x2 v1 σ
            else
              Option.bind (f_X9_part x2 ((3 : Int32) + v2) σ) (fun r3 =>
                eLet (((v2 * (4 : Int32)) + r3.1) : Int32) (fun v4 =>
                  eLet ((x4 - (1 : Int32)) : Int32) (fun v5 =>
                    f_X9_resultOf_L41 1000000 (.inl (x0, x2, v1, v4, v5)) r3.2
                    )
                  )
                )
            )
        else none
        )
    else none
  else none
set_option maxHeartbeats 4000000 in
set_option maxRecDepth 20000 in
theorem s_X9_resultOf (x0 : Nat) (x1 : Int32) (x2 : Int64) (x4 : Int32) (σ : eMem) : ∀ r, f_X9_resultOf x0 x1 x2 x4 σ = some r → Ew false 2 86 [.inr (.inr (x0)), .inl (x1), .inr (.inl (x2)), .inl (x4)] (hp σ) (cN iI r) := by
  refine T_meth (md := m_X9_resultOf) (d0 := 1) (cv := (cN iI)) rfl (lb rfl) (lb rfl) ?_
  unfold f_X9_resultOf
  show Snd false none _ _ _ _ (0, [(0, .inr (.inr (x0))), (1, .inl (x1)), (2, .inr (.inl (x2))), (4, .inl (x4))], [], hp σ, 0, 0)
  refine T_go (S' := (1, [(0, .inr (.inr (x0))), (1, .inl (x1)), (2, .inr (.inl (x2))), (4, .inl (x4))], [.inr (.inr (x0))], hp σ, 0, 0)) 1 rfl ?_
  refine T_getR rfl (fun _ => ?_)
  refine T_go (S' := (6, [(0, .inr (.inr (x0))), (1, .inl (x1)), (2, .inr (.inl (x2))), (4, .inl (x4))], [.inl (x4), .inr (.inr ((RH x0 1)))], hp σ, 0, 0)) 1 rfl ?_
  refine T_iald rfl (fun _ => ?_)
  refine T_go (S' := (9, [(5, .inl ((σ.1 (RH x0 1) x4.toNatClampNeg))), (0, .inr (.inr (x0))), (1, .inl (x1)), (2, .inr (.inl (x2))), (4, .inl (x4))], [], hp σ, 0, 0)) 1 rfl ?_
  refine T_let (Sf := fun v1 => (9, [(5, .inl (v1)), (0, .inr (.inr (x0))), (1, .inl (x1)), (2, .inr (.inl (x2))), (4, .inl (x4))], [], hp σ, 0, 0)) (fun v1 => ?_)
  refine T_go (S' := (12, [(5, .inl (v1)), (0, .inr (.inr (x0))), (1, .inl (x1)), (2, .inr (.inl (x2))), (4, .inl (x4))], [.inl ((4 : Int32)), .inl (x4)], hp σ, 0, 0)) 2 rfl ?_
  refine T_idiv rfl (fun _ => ?_)
  refine T_go (S' := (15, [(6, .inl ((x4 / (4 : Int32)))), (5, .inl (v1)), (0, .inr (.inr (x0))), (1, .inl (x1)), (2, .inr (.inl (x2))), (4, .inl (x4))], [], hp σ, 0, 0)) 1 rfl ?_
  refine T_let (Sf := fun v2 => (15, [(6, .inl (v2)), (5, .inl (v1)), (0, .inr (.inr (x0))), (1, .inl (x1)), (2, .inr (.inl (x2))), (4, .inl (x4))], [], hp σ, 0, 0)) (fun v2 => ?_)
  refine T_go (S' := (17, [(6, .inl (v2)), (5, .inl (v1)), (0, .inr (.inr (x0))), (1, .inl (x1)), (2, .inr (.inl (x2))), (4, .inl (x4))], [.inl ((1 : Int32)), .inl (x1)], hp σ, 0, 0)) 2 rfl ?_
  refine T_icmp_ne 89 rfl rfl (fun _ => ?_) (fun _ => ?_)
  · refine T_loc (ls' := [(2, .inr (.inl (x2))), (5, .inl (v1))]) [4, 1] rfl ?_
    exact s_X9_resultOf_89 x2 v1 σ
  · refine T_go (S' := (29, [(6, .inl (v2)), (5, .inl (v1)), (0, .inr (.inr (x0))), (1, .inl (x1)), (2, .inr (.inl (x2))), (4, .inl (x4))], [.inl (((3 : Int32) + v2)), .inr (.inl (x2)), .inl ((v2 * (4 : Int32)))], hp σ, 0, 0)) 7 rfl ?_
    refine T_cs (i := iI) (as := [.inr (.inl (x2)), .inl (((3 : Int32) + v2))]) (rest := [.inl ((v2 * (4 : Int32)))]) (st := [.inl (((3 : Int32) + v2)), .inr (.inl (x2)), .inl ((v2 * (4 : Int32)))]) rfl (lb rfl) rfl rfl ⟨lb rfl, lb rfl, lb rfl, lb rfl⟩ (fun _ h => Ew_le (lb rfl) (s_X9_part x2 ((3 : Int32) + v2) σ _ h)) (fun r3 => ?_)
    show Snd false none _ _ _ (cN iI) (32, [(6, .inl (v2)), (5, .inl (v1)), (0, .inr (.inr (x0))), (1, .inl (x1)), (2, .inr (.inl (x2))), (4, .inl (x4))], [.inl (r3.1), .inl ((v2 * (4 : Int32)))], hp r3.2, 0, 0)
    refine T_go (S' := (35, [(7, .inl (((v2 * (4 : Int32)) + r3.1))), (6, .inl (v2)), (5, .inl (v1)), (0, .inr (.inr (x0))), (1, .inl (x1)), (2, .inr (.inl (x2))), (4, .inl (x4))], [], hp r3.2, 0, 0)) 2 rfl ?_
    refine T_let (Sf := fun v4 => (35, [(7, .inl (v4)), (6, .inl (v2)), (5, .inl (v1)), (0, .inr (.inr (x0))), (1, .inl (x1)), (2, .inr (.inl (x2))), (4, .inl (x4))], [], hp r3.2, 0, 0)) (fun v4 => ?_)
    refine T_go (S' := (41, [(8, .inl ((x4 - (1 : Int32)))), (7, .inl (v4)), (6, .inl (v2)), (5, .inl (v1)), (0, .inr (.inr (x0))), (1, .inl (x1)), (2, .inr (.inl (x2))), (4, .inl (x4))], [], hp r3.2, 0, 0)) 4 rfl ?_
    refine T_let (Sf := fun v5 => (41, [(8, .inl (v5)), (7, .inl (v4)), (6, .inl (v2)), (5, .inl (v1)), (0, .inr (.inr (x0))), (1, .inl (x1)), (2, .inr (.inl (x2))), (4, .inl (x4))], [], hp r3.2, 0, 0)) (fun v5 => ?_)
    refine T_loc (ls' := [(0, .inr (.inr (x0))), (2, .inr (.inl (x2))), (5, .inl (v1)), (7, .inl (v4)), (8, .inl (v5))]) [4, 6, 3, 1, 0] rfl ?_
    exact (s_X9_resultOf_L41 1000000).1 x0 x2 v1 v4 v5 r3.2
def f_X9_after (x0 : Nat) (x1 : Int64) (x3 : Int32) (σ : eMem) : Option (Int64 × eMem) :=
  if ¬ (4 : Int32) = 0 then
    eLet ((x3 / (4 : Int32)) : Int32) (fun v1 =>
      if (KH x0).1 = 7 then
        if (KH (RH x0 1)).1 = 11 ∧ eix x3 (KH (RH x0 1)).2 = true then
          eLet ((σ.1 (RH x0 1) x3.toNatClampNeg) : Int32) (fun v2 =>
            if ¬ (4 : Int32) = 0 then
              Option.bind (f_X9_with x1 ((0 : Int32) + v1) ((x3 - x3 / (4 : Int32) * (4 : Int32)) + (1 : Int32)) σ) (fun r3 =>
                if (KH x0).1 = 7 then
                  if (KH (RH x0 0)).1 = 11 ∧ eix x3 (KH (RH x0 0)).2 = true then
                    if (r3.2.1 (RH x0 0) x3.toNatClampNeg) = (0 : Int32) then
                      if (KH x0).1 = 7 then
                        if (KH (RH x0 2)).1 = 11 ∧ eix x3 (KH (RH x0 2)).2 = true then
                          Option.bind (f_X9_with r3.1 ((6 : Int32) + v2) (r3.2.1 (RH x0 2) x3.toNatClampNeg) r3.2) (fun r4 =>
                            some (r4.1, r4.2)
                            )
                        else none
                      else none
                    else
                      if (r3.2.1 (RH x0 0) x3.toNatClampNeg) = (3 : Int32) then
                        Option.bind (f_X9_part x1 ((6 : Int32) + v2) r3.2) (fun r5 =>
                          Option.bind (f_X9_with r3.1 ((6 : Int32) + v2) (r5.1 + (1 : Int32)) r5.2) (fun r6 =>
                            some (r6.1, r6.2)
                            )
                          )
                      else
                        some (r3.1, r3.2)
                  else none
                else none
                )
            else none
            )
        else none
      else none
      )
  else none
set_option maxHeartbeats 4000000 in
set_option maxRecDepth 20000 in
theorem s_X9_after (x0 : Nat) (x1 : Int64) (x3 : Int32) (σ : eMem) : ∀ r, f_X9_after x0 x1 x3 σ = some r → Ew false 2 87 [.inr (.inr (x0)), .inr (.inl (x1)), .inl (x3)] (hp σ) (cN iJ r) := by
  refine T_meth (md := m_X9_after) (d0 := 1) (cv := (cN iJ)) rfl (lb rfl) (lb rfl) ?_
  unfold f_X9_after
  show Snd false none _ _ _ _ (0, [(0, .inr (.inr (x0))), (1, .inr (.inl (x1))), (3, .inl (x3))], [], hp σ, 0, 0)
  refine T_go (S' := (2, [(0, .inr (.inr (x0))), (1, .inr (.inl (x1))), (3, .inl (x3))], [.inl ((4 : Int32)), .inl (x3)], hp σ, 0, 0)) 2 rfl ?_
  refine T_idiv rfl (fun _ => ?_)
  refine T_go (S' := (5, [(4, .inl ((x3 / (4 : Int32)))), (0, .inr (.inr (x0))), (1, .inr (.inl (x1))), (3, .inl (x3))], [], hp σ, 0, 0)) 1 rfl ?_
  refine T_let (Sf := fun v1 => (5, [(4, .inl (v1)), (0, .inr (.inr (x0))), (1, .inr (.inl (x1))), (3, .inl (x3))], [], hp σ, 0, 0)) (fun v1 => ?_)
  refine T_go (S' := (6, [(4, .inl (v1)), (0, .inr (.inr (x0))), (1, .inr (.inl (x1))), (3, .inl (x3))], [.inr (.inr (x0))], hp σ, 0, 0)) 1 rfl ?_
  refine T_getR rfl (fun _ => ?_)
  refine T_go (S' := (10, [(4, .inl (v1)), (0, .inr (.inr (x0))), (1, .inr (.inl (x1))), (3, .inl (x3))], [.inl (x3), .inr (.inr ((RH x0 1)))], hp σ, 0, 0)) 1 rfl ?_
  refine T_iald rfl (fun _ => ?_)
  refine T_go (S' := (13, [(5, .inl ((σ.1 (RH x0 1) x3.toNatClampNeg))), (4, .inl (v1)), (0, .inr (.inr (x0))), (1, .inr (.inl (x1))), (3, .inl (x3))], [], hp σ, 0, 0)) 1 rfl ?_
  refine T_let (Sf := fun v2 => (13, [(5, .inl (v2)), (4, .inl (v1)), (0, .inr (.inr (x0))), (1, .inr (.inl (x1))), (3, .inl (x3))], [], hp σ, 0, 0)) (fun v2 => ?_)
  refine T_go (S' := (20, [(5, .inl (v2)), (4, .inl (v1)), (0, .inr (.inr (x0))), (1, .inr (.inl (x1))), (3, .inl (x3))], [.inl ((4 : Int32)), .inl (x3), .inl (((0 : Int32) + v1)), .inr (.inl (x1))], hp σ, 0, 0)) 6 rfl ?_
  refine T_irem rfl (fun _ => ?_)
  refine T_go (S' := (23, [(5, .inl (v2)), (4, .inl (v1)), (0, .inr (.inr (x0))), (1, .inr (.inl (x1))), (3, .inl (x3))], [.inl (((x3 - x3 / (4 : Int32) * (4 : Int32)) + (1 : Int32))), .inl (((0 : Int32) + v1)), .inr (.inl (x1))], hp σ, 0, 0)) 2 rfl ?_
  refine T_cs (i := iJ) (as := [.inr (.inl (x1)), .inl (((0 : Int32) + v1)), .inl (((x3 - x3 / (4 : Int32) * (4 : Int32)) + (1 : Int32)))]) (rest := []) (st := [.inl (((x3 - x3 / (4 : Int32) * (4 : Int32)) + (1 : Int32))), .inl (((0 : Int32) + v1)), .inr (.inl (x1))]) rfl (lb rfl) rfl rfl ⟨lb rfl, lb rfl, lb rfl, lb rfl⟩ (fun _ h => Ew_le (lb rfl) (s_X9_with x1 ((0 : Int32) + v1) ((x3 - x3 / (4 : Int32) * (4 : Int32)) + (1 : Int32)) σ _ h)) (fun r3 => ?_)
  show Snd false none _ _ _ (cN iJ) (26, [(5, .inl (v2)), (4, .inl (v1)), (0, .inr (.inr (x0))), (1, .inr (.inl (x1))), (3, .inl (x3))], [.inr (.inl (r3.1))], hp r3.2, 0, 0)
  refine T_go (S' := (29, [(6, .inr (.inl (r3.1))), (5, .inl (v2)), (4, .inl (v1)), (0, .inr (.inr (x0))), (1, .inr (.inl (x1))), (3, .inl (x3))], [.inr (.inr (x0))], hp r3.2, 0, 0)) 2 rfl ?_
  refine T_getR rfl (fun _ => ?_)
  refine T_go (S' := (33, [(6, .inr (.inl (r3.1))), (5, .inl (v2)), (4, .inl (v1)), (0, .inr (.inr (x0))), (1, .inr (.inl (x1))), (3, .inl (x3))], [.inl (x3), .inr (.inr ((RH x0 0)))], hp r3.2, 0, 0)) 1 rfl ?_
  refine T_iald rfl (fun _ => ?_)
  refine T_sw (0 : Int32) rfl (fun _ => ?_) (fun q0 => ?_)
  · refine T_go (S' := (68, [(6, .inr (.inl (r3.1))), (5, .inl (v2)), (4, .inl (v1)), (0, .inr (.inr (x0))), (1, .inr (.inl (x1))), (3, .inl (x3))], [.inr (.inr (x0)), .inl (((6 : Int32) + v2)), .inr (.inl (r3.1))], hp r3.2, 0, 0)) 5 rfl ?_
    refine T_getR rfl (fun _ => ?_)
    refine T_go (S' := (72, [(6, .inr (.inl (r3.1))), (5, .inl (v2)), (4, .inl (v1)), (0, .inr (.inr (x0))), (1, .inr (.inl (x1))), (3, .inl (x3))], [.inl (x3), .inr (.inr ((RH x0 2))), .inl (((6 : Int32) + v2)), .inr (.inl (r3.1))], hp r3.2, 0, 0)) 1 rfl ?_
    refine T_iald rfl (fun _ => ?_)
    refine T_cs (i := iJ) (as := [.inr (.inl (r3.1)), .inl (((6 : Int32) + v2)), .inl ((r3.2.1 (RH x0 2) x3.toNatClampNeg))]) (rest := []) (st := [.inl ((r3.2.1 (RH x0 2) x3.toNatClampNeg)), .inl (((6 : Int32) + v2)), .inr (.inl (r3.1))]) rfl (lb rfl) rfl rfl ⟨lb rfl, lb rfl, lb rfl, lb rfl⟩ (fun _ h => Ew_le (lb rfl) (s_X9_with r3.1 ((6 : Int32) + v2) (r3.2.1 (RH x0 2) x3.toNatClampNeg) r3.2 _ h)) (fun r4 => ?_)
    show Snd false none _ _ _ (cN iJ) (76, [(6, .inr (.inl (r3.1))), (5, .inl (v2)), (4, .inl (v1)), (0, .inr (.inr (x0))), (1, .inr (.inl (x1))), (3, .inl (x3))], [.inr (.inl (r4.1))], hp r4.2, 0, 0)
    exact T_ret rfl
  refine T_sw (3 : Int32) rfl (fun _ => ?_) (fun q1 => ?_)
  · refine T_go (S' := (90, [(6, .inr (.inl (r3.1))), (5, .inl (v2)), (4, .inl (v1)), (0, .inr (.inr (x0))), (1, .inr (.inl (x1))), (3, .inl (x3))], [.inl (((6 : Int32) + v2)), .inr (.inl (x1)), .inl (((6 : Int32) + v2)), .inr (.inl (r3.1))], hp r3.2, 0, 0)) 8 rfl ?_
    refine T_cs (i := iI) (as := [.inr (.inl (x1)), .inl (((6 : Int32) + v2))]) (rest := [.inl (((6 : Int32) + v2)), .inr (.inl (r3.1))]) (st := [.inl (((6 : Int32) + v2)), .inr (.inl (x1)), .inl (((6 : Int32) + v2)), .inr (.inl (r3.1))]) rfl (lb rfl) rfl rfl ⟨lb rfl, lb rfl, lb rfl, lb rfl⟩ (fun _ h => Ew_le (lb rfl) (s_X9_part x1 ((6 : Int32) + v2) r3.2 _ h)) (fun r5 => ?_)
    show Snd false none _ _ _ (cN iJ) (93, [(6, .inr (.inl (r3.1))), (5, .inl (v2)), (4, .inl (v1)), (0, .inr (.inr (x0))), (1, .inr (.inl (x1))), (3, .inl (x3))], [.inl (r5.1), .inl (((6 : Int32) + v2)), .inr (.inl (r3.1))], hp r5.2, 0, 0)
    refine T_go (S' := (95, [(6, .inr (.inl (r3.1))), (5, .inl (v2)), (4, .inl (v1)), (0, .inr (.inr (x0))), (1, .inr (.inl (x1))), (3, .inl (x3))], [.inl ((r5.1 + (1 : Int32))), .inl (((6 : Int32) + v2)), .inr (.inl (r3.1))], hp r5.2, 0, 0)) 2 rfl ?_
    refine T_cs (i := iJ) (as := [.inr (.inl (r3.1)), .inl (((6 : Int32) + v2)), .inl ((r5.1 + (1 : Int32)))]) (rest := []) (st := [.inl ((r5.1 + (1 : Int32))), .inl (((6 : Int32) + v2)), .inr (.inl (r3.1))]) rfl (lb rfl) rfl rfl ⟨lb rfl, lb rfl, lb rfl, lb rfl⟩ (fun _ h => Ew_le (lb rfl) (s_X9_with r3.1 ((6 : Int32) + v2) (r5.1 + (1 : Int32)) r5.2 _ h)) (fun r6 => ?_)
    show Snd false none _ _ _ (cN iJ) (98, [(6, .inr (.inl (r3.1))), (5, .inl (v2)), (4, .inl (v1)), (0, .inr (.inr (x0))), (1, .inr (.inl (x1))), (3, .inl (x3))], [.inr (.inl (r6.1))], hp r6.2, 0, 0)
    exact T_ret rfl
  refine T_lso 99 rfl ?_ rfl ?_
  · exact (e_osw (e_i32 (k := 0) q0 (by decide)) (e_osw (e_i32 (k := 3) q1 (by decide)) rfl))
  refine T_go (S' := (101, [(6, .inr (.inl (r3.1))), (5, .inl (v2)), (4, .inl (v1)), (0, .inr (.inr (x0))), (1, .inr (.inl (x1))), (3, .inl (x3))], [.inr (.inl (r3.1))], hp r3.2, 0, 0)) 1 rfl ?_
  exact T_ret rfl
