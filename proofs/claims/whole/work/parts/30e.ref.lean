/-! what the methods do -/
def f_X12_drain_20  (σ : eMem) : Option (Int32 × eMem) :=
  if eB (0 : Int32) = true then some ((0 : Int32), σ) else none
set_option maxHeartbeats 4000000 in
set_option maxRecDepth 20000 in
theorem s_X12_drain_20  (σ : eMem) : Snd false none 3 m_X12_drain (f_X12_drain_20 σ) (cN iI) (20, [], [], hp σ, 0, 0) := by
  unfold f_X12_drain_20
  refine T_go (S' := (21, [], [.inl ((0 : Int32))], hp σ, 0, 0)) 1 rfl ?_
  exact T_chkr rfl
def f_X12_drain_67 (s0 : Int32) (σ : eMem) : Option (Int32 × eMem) :=
  if eB s0 = true then some (s0, σ) else none
set_option maxHeartbeats 4000000 in
set_option maxRecDepth 20000 in
theorem s_X12_drain_67 (s0 : Int32) (σ : eMem) : Snd false none 3 m_X12_drain (f_X12_drain_67 s0 σ) (cN iI) (67, [], [.inl (s0)], hp σ, 0, 0) := by
  unfold f_X12_drain_67
  exact T_chkr rfl
def f_X12_drain_66  (σ : eMem) : Option (Int32 × eMem) :=
  f_X12_drain_67 (0 : Int32) σ
set_option maxHeartbeats 4000000 in
set_option maxRecDepth 20000 in
theorem s_X12_drain_66  (σ : eMem) : Snd false none 3 m_X12_drain (f_X12_drain_66 σ) (cN iI) (66, [], [], hp σ, 0, 0) := by
  unfold f_X12_drain_66
  refine T_go (S' := (67, [], [.inl ((0 : Int32))], hp σ, 0, 0)) 1 rfl ?_
  refine T_loc (ls' := []) [] rfl ?_
  exact s_X12_drain_67 (0 : Int32) σ
def f_X12_drain_100 : Nat → Nat → Int32 → Int32 → eMem → Option (Int32 × eMem)
  | 0, _, _, _, _ => none
  | n + 1, x0, x1, x3, σ =>
    if (KH x0).1 = 10 then
      if (KH (RH x0 20)).1 = 11 ∧ eix x1 (KH (RH x0 20)).2 = true then
        if (((4 : Int32) * x1) + (σ.1 (RH x0 20) x1.toNatClampNeg)) ≤ x3 then
          if eB (1 : Int32) = true then some ((1 : Int32), σ) else none
        else
          if (KH x0).1 = 10 then
            if (KH x0).1 = 10 then
              if (KH (RH x0 21)).1 = 11 ∧ eix (x3 + (1 : Int32)) (KH (RH x0 21)).2 = true then
                if (KH (RH x0 21)).1 = 11 ∧ eix x3 (KH (RH x0 21)).2 = true then eLet ((eup σ.1 (RH x0 21) x3.toNatClampNeg (σ.1 (RH x0 21) (x3 + (1 : Int32)).toNatClampNeg), σ.2) : eMem) (fun σ1 =>
                  if (KH x0).1 = 10 then
                    if (KH x0).1 = 10 then
                      if (KH (RH x0 22)).1 = 11 ∧ eix (x3 + (1 : Int32)) (KH (RH x0 22)).2 = true then
                        if (KH (RH x0 22)).1 = 11 ∧ eix x3 (KH (RH x0 22)).2 = true then eLet ((eup σ1.1 (RH x0 22) x3.toNatClampNeg (σ1.1 (RH x0 22) (x3 + (1 : Int32)).toNatClampNeg), σ1.2) : eMem) (fun σ2 =>
                          f_X12_drain_100 n x0 x1 (x3 + (1 : Int32)) σ2
                          ) else none
                      else none
                    else none
                  else none
                  ) else none
              else none
            else none
          else none
      else none
    else none
set_option maxHeartbeats 4000000 in
set_option maxRecDepth 20000 in
theorem s_X12_drain_100 : ∀ (n : Nat) (x0 : Nat) (x1 : Int32) (x3 : Int32) (σ : eMem), Snd false none 3 m_X12_drain (f_X12_drain_100 n x0 x1 x3 σ) (cN iI) (100, [(0, .inr (.inr (x0))), (1, .inl (x1)), (3, .inl (x3))], [], hp σ, 0, 0) := by
  intro n
  induction n with
  | zero => exact fun _ _ _ _ => T_none
  | succ n ih =>
    intro x0 x1 x3 σ
    unfold f_X12_drain_100
    refine T_go (S' := (105, [(0, .inr (.inr (x0))), (1, .inl (x1)), (3, .inl (x3))], [.inr (.inr (x0)), .inl (((4 : Int32) * x1)), .inl (x3)], hp σ, 0, 0)) 5 rfl ?_
    refine T_getR rfl (fun _ => ?_)
    refine T_go (S' := (109, [(0, .inr (.inr (x0))), (1, .inl (x1)), (3, .inl (x3))], [.inl (x1), .inr (.inr ((RH x0 20))), .inl (((4 : Int32) * x1)), .inl (x3)], hp σ, 0, 0)) 1 rfl ?_
    refine T_iald rfl (fun _ => ?_)
    refine T_go (S' := (111, [(0, .inr (.inr (x0))), (1, .inl (x1)), (3, .inl (x3))], [.inl ((((4 : Int32) * x1) + (σ.1 (RH x0 20) x1.toNatClampNeg))), .inl (x3)], hp σ, 0, 0)) 1 rfl ?_
    refine T_icmp_ge 148 rfl rfl (fun _ => ?_) (fun _ => ?_)
    · refine T_go (S' := (149, [(0, .inr (.inr (x0))), (1, .inl (x1)), (3, .inl (x3))], [.inl ((1 : Int32))], hp σ, 0, 0)) 1 rfl ?_
      exact T_chkr rfl
    · refine T_go (S' := (115, [(0, .inr (.inr (x0))), (1, .inl (x1)), (3, .inl (x3))], [.inr (.inr (x0))], hp σ, 0, 0)) 1 rfl ?_
      refine T_getR rfl (fun _ => ?_)
      refine T_go (S' := (120, [(0, .inr (.inr (x0))), (1, .inl (x1)), (3, .inl (x3))], [.inr (.inr (x0)), .inl (x3), .inr (.inr ((RH x0 21)))], hp σ, 0, 0)) 2 rfl ?_
      refine T_getR rfl (fun _ => ?_)
      refine T_go (S' := (126, [(0, .inr (.inr (x0))), (1, .inl (x1)), (3, .inl (x3))], [.inl ((x3 + (1 : Int32))), .inr (.inr ((RH x0 21))), .inl (x3), .inr (.inr ((RH x0 21)))], hp σ, 0, 0)) 3 rfl ?_
      refine T_iald rfl (fun _ => ?_)
      refine T_iast rfl (fun _ => ?_)
      refine T_let (Sf := fun σ1 => (128, [(0, .inr (.inr (x0))), (1, .inl (x1)), (3, .inl (x3))], [], hp σ1, 0, 0)) (fun σ1 => ?_)
      refine T_go (S' := (129, [(0, .inr (.inr (x0))), (1, .inl (x1)), (3, .inl (x3))], [.inr (.inr (x0))], hp σ1, 0, 0)) 1 rfl ?_
      refine T_getR rfl (fun _ => ?_)
      refine T_go (S' := (134, [(0, .inr (.inr (x0))), (1, .inl (x1)), (3, .inl (x3))], [.inr (.inr (x0)), .inl (x3), .inr (.inr ((RH x0 22)))], hp σ1, 0, 0)) 2 rfl ?_
      refine T_getR rfl (fun _ => ?_)
      refine T_go (S' := (140, [(0, .inr (.inr (x0))), (1, .inl (x1)), (3, .inl (x3))], [.inl ((x3 + (1 : Int32))), .inr (.inr ((RH x0 22))), .inl (x3), .inr (.inr ((RH x0 22)))], hp σ1, 0, 0)) 3 rfl ?_
      refine T_iald rfl (fun _ => ?_)
      refine T_iast rfl (fun _ => ?_)
      refine T_let (Sf := fun σ2 => (142, [(0, .inr (.inr (x0))), (1, .inl (x1)), (3, .inl (x3))], [], hp σ2, 0, 0)) (fun σ2 => ?_)
      refine T_go (S' := (100, [(3, .inl ((x3 + (1 : Int32)))), (0, .inr (.inr (x0))), (1, .inl (x1))], [], hp σ2, 0, 0)) 2 rfl ?_
      refine T_loc (ls' := [(0, .inr (.inr (x0))), (1, .inl (x1)), (3, .inl ((x3 + (1 : Int32))))]) [1, 2, 0] rfl ?_
      exact ih x0 x1 (x3 + (1 : Int32)) σ2
def f_X12_drain (x0 : Nat) (x1 : Int32) (σ : eMem) : Option (Int32 × eMem) :=
  Option.bind (f_X12_isCore x1 σ) (fun r1 =>
    if (KH x0).1 = 10 then
      Option.bind (f_X12_asks x0 r1.1 r1.2) (fun r2 =>
        if r2.1 = (0 : Int32) then
          f_X12_drain_20  r2.2
        else
          if (KH x0).1 = 10 then
            if (KH (RH x0 20)).1 = 11 ∧ eix x1 (KH (RH x0 20)).2 = true then
              if ¬ (r2.2.1 (RH x0 20) x1.toNatClampNeg) = (0 : Int32) then
                if (KH x0).1 = 10 then
                  if (KH (RH x0 21)).1 = 11 ∧ eix ((4 : Int32) * x1) (KH (RH x0 21)).2 = true then
                    eLet ((r2.2.1 (RH x0 21) ((4 : Int32) * x1).toNatClampNeg) : Int32) (fun v3 =>
                      if (KH x0).1 = 10 then
                        Option.bind (f_X12_stateAt x0 x1 v3 r2.2) (fun r4 =>
                          Option.bind (f_X12_isOwned r4.1 r4.2) (fun r5 =>
                            if ¬ r5.1 = (0 : Int32) then
                              if (KH x0).1 = 10 then
                                Option.bind (f_X12_placeOf x0 x1 v3 r5.2) (fun r6 =>
                                  if (KH x0).1 = 10 then
                                    if (KH (RH x0 22)).1 = 11 ∧ eix ((4 : Int32) * x1) (KH (RH x0 22)).2 = true then
                                      if (KH x0).1 = 10 then
                                        Option.bind (f_X12_changes x0 r6.1 (r6.2.1 (RH x0 22) ((4 : Int32) * x1).toNatClampNeg) r6.2) (fun r7 =>
                                          if (KH x0).1 = 10 then
                                            if (KH (RH x0 20)).1 = 11 ∧ eix x1 (KH (RH x0 20)).2 = true then
                                              if (KH (RH x0 20)).1 = 11 ∧ eix x1 (KH (RH x0 20)).2 = true then eLet ((eup r7.2.1 (RH x0 20) x1.toNatClampNeg ((r7.2.1 (RH x0 20) x1.toNatClampNeg) - (1 : Int32)), r7.2.2) : eMem) (fun σ8 =>
                                                eLet (((4 : Int32) * x1) : Int32) (fun v9 =>
                                                  f_X12_drain_100 1000000 x0 x1 v9 σ8
                                                  )
                                                ) else none
                                            else none
                                          else none
                                          )
                                      else none
                                    else none
                                  else none
                                  )
                              else none
                            else
                              if (KH x0).1 = 10 then
                                Option.bind (f_X12_asksFor x0 x1 v3 (1 : Int32) r5.2) (fun r10 =>
                                  if r10.1 = (0 : Int32) then
                                    f_X12_drain_66  r10.2
                                  else
                                    Option.bind (f_X12_isCore x1 r10.2) (fun r11 =>
                                      if ¬ r11.1 = (0 : Int32) then
                                        f_X12_drain_66  r11.2
                                      else
                                        f_X12_drain_67 (1 : Int32) r11.2
                                      )
                                  )
                              else none
                            )
                          )
                      else none
                      )
                  else none
                else none
              else
                f_X12_drain_20  r2.2
            else none
          else none
        )
    else none
    )
set_option maxHeartbeats 4000000 in
set_option maxRecDepth 20000 in
theorem s_X12_drain (x0 : Nat) (x1 : Int32) (σ : eMem) : ∀ r, f_X12_drain x0 x1 σ = some r → Ew false 4 169 [.inr (.inr (x0)), .inl (x1)] (hp σ) (cN iI r) := by
  refine T_meth (md := m_X12_drain) (d0 := 3) (cv := (cN iI)) rfl (lb rfl) (lb rfl) ?_
  unfold f_X12_drain
  show Snd false none _ _ _ _ (0, [(0, .inr (.inr (x0))), (1, .inl (x1))], [], hp σ, 0, 0)
  refine T_go (S' := (2, [(0, .inr (.inr (x0))), (1, .inl (x1))], [.inl (x1), .inr (.inr (x0))], hp σ, 0, 0)) 2 rfl ?_
  refine T_cs (i := iI) (as := [.inl (x1)]) (rest := [.inr (.inr (x0))]) (st := [.inl (x1), .inr (.inr (x0))]) rfl (lb rfl) rfl rfl ⟨lb rfl, lb rfl, lb rfl, lb rfl⟩ (fun _ h => Ew_le (lb rfl) (s_X12_isCore x1 σ _ h)) (fun r1 => ?_)
  show Snd false none _ _ _ (cN iI) (5, [(0, .inr (.inr (x0))), (1, .inl (x1))], [.inl (r1.1), .inr (.inr (x0))], hp r1.2, 0, 0)
  refine T_cv (i := iI) (as := [.inr (.inr (x0)), .inl (r1.1)]) (rest := []) (st := [.inl (r1.1), .inr (.inr (x0))]) rfl rfl rfl ⟨lb rfl, lb rfl, lb rfl, lb rfl⟩ (fun _ h => Ew_le (lb rfl) (s_X12_asks x0 r1.1 r1.2 _ h)) (fun _ r2 => ?_)
  show Snd false none _ _ _ (cN iI) (8, [(0, .inr (.inr (x0))), (1, .inl (x1))], [.inl (r2.1)], hp r2.2, 0, 0)
  refine T_if_eq 20 rfl rfl (fun _ => ?_) (fun _ => ?_)
  · refine T_loc (ls' := []) [] rfl ?_
    exact s_X12_drain_20  r2.2
  · refine T_go (S' := (12, [(0, .inr (.inr (x0))), (1, .inl (x1))], [.inr (.inr (x0))], hp r2.2, 0, 0)) 1 rfl ?_
    refine T_getR rfl (fun _ => ?_)
    refine T_go (S' := (16, [(0, .inr (.inr (x0))), (1, .inl (x1))], [.inl (x1), .inr (.inr ((RH x0 20)))], hp r2.2, 0, 0)) 1 rfl ?_
    refine T_iald rfl (fun _ => ?_)
    refine T_if_ne 22 rfl rfl (fun _ => ?_) (fun _ => ?_)
    · refine T_go (S' := (23, [(0, .inr (.inr (x0))), (1, .inl (x1))], [.inr (.inr (x0))], hp r2.2, 0, 0)) 1 rfl ?_
      refine T_getR rfl (fun _ => ?_)
      refine T_go (S' := (29, [(0, .inr (.inr (x0))), (1, .inl (x1))], [.inl (((4 : Int32) * x1)), .inr (.inr ((RH x0 21)))], hp r2.2, 0, 0)) 3 rfl ?_
      refine T_iald rfl (fun _ => ?_)
      refine T_go (S' := (31, [(2, .inl ((r2.2.1 (RH x0 21) ((4 : Int32) * x1).toNatClampNeg))), (0, .inr (.inr (x0))), (1, .inl (x1))], [], hp r2.2, 0, 0)) 1 rfl ?_
      refine T_let (Sf := fun v3 => (31, [(2, .inl (v3)), (0, .inr (.inr (x0))), (1, .inl (x1))], [], hp r2.2, 0, 0)) (fun v3 => ?_)
      refine T_go (S' := (34, [(2, .inl (v3)), (0, .inr (.inr (x0))), (1, .inl (x1))], [.inl (v3), .inl (x1), .inr (.inr (x0))], hp r2.2, 0, 0)) 3 rfl ?_
      refine T_cv (i := iI) (as := [.inr (.inr (x0)), .inl (x1), .inl (v3)]) (rest := []) (st := [.inl (v3), .inl (x1), .inr (.inr (x0))]) rfl rfl rfl ⟨lb rfl, lb rfl, lb rfl, lb rfl⟩ (fun _ h => Ew_le (lb rfl) (s_X12_stateAt x0 x1 v3 r2.2 _ h)) (fun _ r4 => ?_)
      show Snd false none _ _ _ (cN iI) (37, [(2, .inl (v3)), (0, .inr (.inr (x0))), (1, .inl (x1))], [.inl (r4.1)], hp r4.2, 0, 0)
      refine T_cs (i := iI) (as := [.inl (r4.1)]) (rest := []) (st := [.inl (r4.1)]) rfl (lb rfl) rfl rfl ⟨lb rfl, lb rfl, lb rfl, lb rfl⟩ (fun _ h => Ew_le (lb rfl) (s_X12_isOwned r4.1 r4.2 _ h)) (fun r5 => ?_)
      show Snd false none _ _ _ (cN iI) (40, [(2, .inl (v3)), (0, .inr (.inr (x0))), (1, .inl (x1))], [.inl (r5.1)], hp r5.2, 0, 0)
      refine T_if_ne 68 rfl rfl (fun _ => ?_) (fun _ => ?_)
      · refine T_go (S' := (72, [(2, .inl (v3)), (0, .inr (.inr (x0))), (1, .inl (x1))], [.inl (v3), .inl (x1), .inr (.inr (x0)), .inr (.inr (x0))], hp r5.2, 0, 0)) 4 rfl ?_
        refine T_cv (i := iI) (as := [.inr (.inr (x0)), .inl (x1), .inl (v3)]) (rest := [.inr (.inr (x0))]) (st := [.inl (v3), .inl (x1), .inr (.inr (x0)), .inr (.inr (x0))]) rfl rfl rfl ⟨lb rfl, lb rfl, lb rfl, lb rfl⟩ (fun _ h => Ew_le (lb rfl) (s_X12_placeOf x0 x1 v3 r5.2 _ h)) (fun _ r6 => ?_)
        show Snd false none _ _ _ (cN iI) (75, [(2, .inl (v3)), (0, .inr (.inr (x0))), (1, .inl (x1))], [.inl (r6.1), .inr (.inr (x0))], hp r6.2, 0, 0)
        refine T_go (S' := (76, [(2, .inl (v3)), (0, .inr (.inr (x0))), (1, .inl (x1))], [.inr (.inr (x0)), .inl (r6.1), .inr (.inr (x0))], hp r6.2, 0, 0)) 1 rfl ?_
        refine T_getR rfl (fun _ => ?_)
        refine T_go (S' := (82, [(2, .inl (v3)), (0, .inr (.inr (x0))), (1, .inl (x1))], [.inl (((4 : Int32) * x1)), .inr (.inr ((RH x0 22))), .inl (r6.1), .inr (.inr (x0))], hp r6.2, 0, 0)) 3 rfl ?_
        refine T_iald rfl (fun _ => ?_)
        refine T_cv (i := iU) (as := [.inr (.inr (x0)), .inl (r6.1), .inl ((r6.2.1 (RH x0 22) ((4 : Int32) * x1).toNatClampNeg))]) (rest := []) (st := [.inl ((r6.2.1 (RH x0 22) ((4 : Int32) * x1).toNatClampNeg)), .inl (r6.1), .inr (.inr (x0))]) rfl rfl rfl ⟨lb rfl, lb rfl, lb rfl, lb rfl⟩ (fun _ h => Ew_le (lb rfl) (s_X12_changes x0 r6.1 (r6.2.1 (RH x0 22) ((4 : Int32) * x1).toNatClampNeg) r6.2 _ h)) (fun _ r7 => ?_)
        show Snd false none _ _ _ (cN iI) (86, [(2, .inl (v3)), (0, .inr (.inr (x0))), (1, .inl (x1))], [], hp r7.2, 0, 0)
        refine T_go (S' := (87, [(2, .inl (v3)), (0, .inr (.inr (x0))), (1, .inl (x1))], [.inr (.inr (x0))], hp r7.2, 0, 0)) 1 rfl ?_
        refine T_getR rfl (fun _ => ?_)
        refine T_go (S' := (92, [(2, .inl (v3)), (0, .inr (.inr (x0))), (1, .inl (x1))], [.inl (x1), .inr (.inr ((RH x0 20))), .inl (x1), .inr (.inr ((RH x0 20)))], hp r7.2, 0, 0)) 2 rfl ?_
        refine T_iald rfl (fun _ => ?_)
        refine T_go (S' := (95, [(2, .inl (v3)), (0, .inr (.inr (x0))), (1, .inl (x1))], [.inl (((r7.2.1 (RH x0 20) x1.toNatClampNeg) - (1 : Int32))), .inl (x1), .inr (.inr ((RH x0 20)))], hp r7.2, 0, 0)) 2 rfl ?_
        refine T_iast rfl (fun _ => ?_)
        refine T_let (Sf := fun σ8 => (96, [(2, .inl (v3)), (0, .inr (.inr (x0))), (1, .inl (x1))], [], hp σ8, 0, 0)) (fun σ8 => ?_)
        refine T_go (S' := (100, [(3, .inl (((4 : Int32) * x1))), (2, .inl (v3)), (0, .inr (.inr (x0))), (1, .inl (x1))], [], hp σ8, 0, 0)) 4 rfl ?_
        refine T_let (Sf := fun v9 => (100, [(3, .inl (v9)), (2, .inl (v3)), (0, .inr (.inr (x0))), (1, .inl (x1))], [], hp σ8, 0, 0)) (fun v9 => ?_)
        refine T_loc (ls' := [(0, .inr (.inr (x0))), (1, .inl (x1)), (3, .inl (v9))]) [2, 3, 0] rfl ?_
        exact s_X12_drain_100 1000000 x0 x1 v9 σ8
      · refine T_go (S' := (47, [(2, .inl (v3)), (0, .inr (.inr (x0))), (1, .inl (x1))], [.inl ((1 : Int32)), .inl (v3), .inl (x1), .inr (.inr (x0))], hp r5.2, 0, 0)) 4 rfl ?_
        refine T_cv (i := iI) (as := [.inr (.inr (x0)), .inl (x1), .inl (v3), .inl ((1 : Int32))]) (rest := []) (st := [.inl ((1 : Int32)), .inl (v3), .inl (x1), .inr (.inr (x0))]) rfl rfl rfl ⟨lb rfl, lb rfl, lb rfl, lb rfl⟩ (fun _ h => Ew_le (lb rfl) (s_X12_asksFor x0 x1 v3 (1 : Int32) r5.2 _ h)) (fun _ r10 => ?_)
        show Snd false none _ _ _ (cN iI) (50, [(2, .inl (v3)), (0, .inr (.inr (x0))), (1, .inl (x1))], [.inl (r10.1)], hp r10.2, 0, 0)
        refine T_go (S' := (52, [(3, .inl (r10.1)), (2, .inl (v3)), (0, .inr (.inr (x0))), (1, .inl (x1))], [.inl (r10.1)], hp r10.2, 0, 0)) 2 rfl ?_
        refine T_if_eq 66 rfl rfl (fun _ => ?_) (fun _ => ?_)
        · refine T_loc (ls' := []) [] rfl ?_
          exact s_X12_drain_66  r10.2
        · refine T_go (S' := (56, [(3, .inl (r10.1)), (2, .inl (v3)), (0, .inr (.inr (x0))), (1, .inl (x1))], [.inl (x1)], hp r10.2, 0, 0)) 1 rfl ?_
          refine T_cs (i := iI) (as := [.inl (x1)]) (rest := []) (st := [.inl (x1)]) rfl (lb rfl) rfl rfl ⟨lb rfl, lb rfl, lb rfl, lb rfl⟩ (fun _ h => Ew_le (lb rfl) (s_X12_isCore x1 r10.2 _ h)) (fun r11 => ?_)
          show Snd false none _ _ _ (cN iI) (59, [(3, .inl (r10.1)), (2, .inl (v3)), (0, .inr (.inr (x0))), (1, .inl (x1))], [.inl (r11.1)], hp r11.2, 0, 0)
          refine T_if_ne 66 rfl rfl (fun _ => ?_) (fun _ => ?_)
          · refine T_loc (ls' := []) [] rfl ?_
            exact s_X12_drain_66  r11.2
          · refine T_go (S' := (67, [(3, .inl (r10.1)), (2, .inl (v3)), (0, .inr (.inr (x0))), (1, .inl (x1))], [.inl ((1 : Int32))], hp r11.2, 0, 0)) 2 rfl ?_
            refine T_loc (ls' := []) [] rfl ?_
            exact s_X12_drain_67 (1 : Int32) r11.2
    · refine T_loc (ls' := []) [] rfl ?_
      exact s_X12_drain_20  r2.2
def f_X12_fence_25 (s0 : Int32) (σ : eMem) : Option (Int32 × eMem) :=
  if eB s0 = true then some (s0, σ) else none
set_option maxHeartbeats 4000000 in
set_option maxRecDepth 20000 in
theorem s_X12_fence_25 (s0 : Int32) (σ : eMem) : Snd false none 1 m_X12_fence (f_X12_fence_25 s0 σ) (cN iI) (25, [], [.inl (s0)], hp σ, 0, 0) := by
  unfold f_X12_fence_25
  exact T_chkr rfl
def f_X12_fence_24  (σ : eMem) : Option (Int32 × eMem) :=
  f_X12_fence_25 (0 : Int32) σ
set_option maxHeartbeats 4000000 in
set_option maxRecDepth 20000 in
theorem s_X12_fence_24  (σ : eMem) : Snd false none 1 m_X12_fence (f_X12_fence_24 σ) (cN iI) (24, [], [], hp σ, 0, 0) := by
  unfold f_X12_fence_24
  refine T_go (S' := (25, [], [.inl ((0 : Int32))], hp σ, 0, 0)) 1 rfl ?_
  refine T_loc (ls' := []) [] rfl ?_
  exact s_X12_fence_25 (0 : Int32) σ
def f_X12_fence (x0 : Nat) (x1 : Int32) (σ : eMem) : Option (Int32 × eMem) :=
  Option.bind (f_X12_isCore x1 σ) (fun r1 =>
    if (KH x0).1 = 10 then
      Option.bind (f_X12_asks x0 r1.1 r1.2) (fun r2 =>
        if r2.1 = (0 : Int32) then
          f_X12_fence_24  r2.2
        else
          if (KH x0).1 = 10 then
            if (KH (RH x0 20)).1 = 11 ∧ eix x1 (KH (RH x0 20)).2 = true then
              if ¬ (r2.2.1 (RH x0 20) x1.toNatClampNeg) = (0 : Int32) then
                f_X12_fence_24  r2.2
              else
                f_X12_fence_25 (1 : Int32) r2.2
            else none
          else none
        )
    else none
    )
set_option maxHeartbeats 4000000 in
set_option maxRecDepth 20000 in
theorem s_X12_fence (x0 : Nat) (x1 : Int32) (σ : eMem) : ∀ r, f_X12_fence x0 x1 σ = some r → Ew false 2 170 [.inr (.inr (x0)), .inl (x1)] (hp σ) (cN iI r) := by
  refine T_meth (md := m_X12_fence) (d0 := 1) (cv := (cN iI)) rfl (lb rfl) (lb rfl) ?_
  unfold f_X12_fence
  show Snd false none _ _ _ _ (0, [(0, .inr (.inr (x0))), (1, .inl (x1))], [], hp σ, 0, 0)
  refine T_go (S' := (2, [(0, .inr (.inr (x0))), (1, .inl (x1))], [.inl (x1), .inr (.inr (x0))], hp σ, 0, 0)) 2 rfl ?_
  refine T_cs (i := iI) (as := [.inl (x1)]) (rest := [.inr (.inr (x0))]) (st := [.inl (x1), .inr (.inr (x0))]) rfl (lb rfl) rfl rfl ⟨lb rfl, lb rfl, lb rfl, lb rfl⟩ (fun _ h => Ew_le (lb rfl) (s_X12_isCore x1 σ _ h)) (fun r1 => ?_)
  show Snd false none _ _ _ (cN iI) (5, [(0, .inr (.inr (x0))), (1, .inl (x1))], [.inl (r1.1), .inr (.inr (x0))], hp r1.2, 0, 0)
  refine T_cv (i := iI) (as := [.inr (.inr (x0)), .inl (r1.1)]) (rest := []) (st := [.inl (r1.1), .inr (.inr (x0))]) rfl rfl rfl ⟨lb rfl, lb rfl, lb rfl, lb rfl⟩ (fun _ h => Ew_le (lb rfl) (s_X12_asks x0 r1.1 r1.2 _ h)) (fun _ r2 => ?_)
  show Snd false none _ _ _ (cN iI) (8, [(0, .inr (.inr (x0))), (1, .inl (x1))], [.inl (r2.1)], hp r2.2, 0, 0)
  refine T_if_eq 24 rfl rfl (fun _ => ?_) (fun _ => ?_)
  · refine T_loc (ls' := []) [] rfl ?_
    exact s_X12_fence_24  r2.2
  · refine T_go (S' := (12, [(0, .inr (.inr (x0))), (1, .inl (x1))], [.inr (.inr (x0))], hp r2.2, 0, 0)) 1 rfl ?_
    refine T_getR rfl (fun _ => ?_)
    refine T_go (S' := (16, [(0, .inr (.inr (x0))), (1, .inl (x1))], [.inl (x1), .inr (.inr ((RH x0 20)))], hp r2.2, 0, 0)) 1 rfl ?_
    refine T_iald rfl (fun _ => ?_)
    refine T_if_ne 24 rfl rfl (fun _ => ?_) (fun _ => ?_)
    · refine T_loc (ls' := []) [] rfl ?_
      exact s_X12_fence_24  r2.2
    · refine T_go (S' := (25, [(0, .inr (.inr (x0))), (1, .inl (x1))], [.inl ((1 : Int32))], hp r2.2, 0, 0)) 2 rfl ?_
      refine T_loc (ls' := []) [] rfl ?_
      exact s_X12_fence_25 (1 : Int32) r2.2
def f_X12_add_22 (x0 : Nat) (σ : eMem) : Option (Int32 × eMem) :=
  if (KH x0).1 = 10 then
    Option.bind (f_X12_fails x0 (2 : Int32) σ) (fun r1 =>
      some (r1.1, r1.2)
      )
  else none
set_option maxHeartbeats 4000000 in
set_option maxRecDepth 20000 in
theorem s_X12_add_22 (x0 : Nat) (σ : eMem) : Snd false none 3 m_X12_add (f_X12_add_22 x0 σ) (cN iI) (22, [(0, .inr (.inr (x0)))], [], hp σ, 0, 0) := by
  unfold f_X12_add_22
  refine T_go (S' := (24, [(0, .inr (.inr (x0)))], [.inl ((2 : Int32)), .inr (.inr (x0))], hp σ, 0, 0)) 2 rfl ?_
  refine T_cv (i := iI) (as := [.inr (.inr (x0)), .inl ((2 : Int32))]) (rest := []) (st := [.inl ((2 : Int32)), .inr (.inr (x0))]) rfl rfl rfl ⟨lb rfl, lb rfl, lb rfl, lb rfl⟩ (fun _ h => Ew_le (lb rfl) (s_X12_fails x0 (2 : Int32) σ _ h)) (fun _ r1 => ?_)
  show Snd false none _ _ _ (cN iI) (27, [(0, .inr (.inr (x0)))], [.inl (r1.1)], hp r1.2, 0, 0)
  exact T_ret rfl
def f_X12_add_46 (x0 : Nat) (σ : eMem) : Option (Int32 × eMem) :=
  if (KH x0).1 = 10 then
    Option.bind (f_X12_fails x0 (3 : Int32) σ) (fun r1 =>
      some (r1.1, r1.2)
      )
  else none
set_option maxHeartbeats 4000000 in
set_option maxRecDepth 20000 in
theorem s_X12_add_46 (x0 : Nat) (σ : eMem) : Snd false none 3 m_X12_add (f_X12_add_46 x0 σ) (cN iI) (46, [(0, .inr (.inr (x0)))], [], hp σ, 0, 0) := by
  unfold f_X12_add_46
  refine T_go (S' := (48, [(0, .inr (.inr (x0)))], [.inl ((3 : Int32)), .inr (.inr (x0))], hp σ, 0, 0)) 2 rfl ?_
  refine T_cv (i := iI) (as := [.inr (.inr (x0)), .inl ((3 : Int32))]) (rest := []) (st := [.inl ((3 : Int32)), .inr (.inr (x0))]) rfl rfl rfl ⟨lb rfl, lb rfl, lb rfl, lb rfl⟩ (fun _ h => Ew_le (lb rfl) (s_X12_fails x0 (3 : Int32) σ _ h)) (fun _ r1 => ?_)
  show Snd false none _ _ _ (cN iI) (51, [(0, .inr (.inr (x0)))], [.inl (r1.1)], hp r1.2, 0, 0)
  exact T_ret rfl
def f_X12_add_83 (s0 : Int32) (σ : eMem) : Option (Int32 × eMem) :=
  some (s0, σ)
set_option maxHeartbeats 4000000 in
set_option maxRecDepth 20000 in
theorem s_X12_add_83 (s0 : Int32) (σ : eMem) : Snd false none 3 m_X12_add (f_X12_add_83 s0 σ) (cN iI) (83, [], [.inl (s0)], hp σ, 0, 0) := by
  unfold f_X12_add_83
  exact T_ret rfl
def f_X12_add (x0 : Nat) (x1 : Int32) (x2 : Int32) (x3 : Int32) (σ : eMem) : Option (Int32 × eMem) :=
  if (KH x0).1 = 10 then
    Option.bind (f_X12_asksLine x0 x1 x2 σ) (fun r1 =>
      if ¬ r1.1 = (0 : Int32) then
        if x3 < (1 : Int32) then
          f_X12_add_22 x0 r1.2
        else
          if x3 ≤ (9 : Int32) then
            if (KH x0).1 = 10 then
              if (KH (RH x0 20)).1 = 11 ∧ eix x1 (KH (RH x0 20)).2 = true then
                if (0 : Int32) < (r1.2.1 (RH x0 20) x1.toNatClampNeg) then
                  f_X12_add_46 x0 r1.2
                else
                  if (KH x0).1 = 10 then
                    if (KH (RH x0 23)).1 = 13 ∧ eix x1 (KH (RH x0 23)).2 = true then
                      if (r1.2.1 (RH x0 23) x1.toNatClampNeg) = (0 : Int32) then
                        if (KH x0).1 = 10 then
                          Option.bind (f_X12_stateAt x0 x1 x2 r1.2) (fun r2 =>
                            Option.bind (f_X12_isOwned r2.1 r2.2) (fun r3 =>
                              if ¬ r3.1 = (0 : Int32) then
                                if (KH x0).1 = 10 then
                                  Option.bind (f_X12_placeOf x0 x1 x2 r3.2) (fun r4 =>
                                    if (KH x0).1 = 10 then
                                      if (KH (RH x0 14)).1 = 11 ∧ eix r4.1 (KH (RH x0 14)).2 = true then
                                        eLet ((r4.2.1 (RH x0 14) r4.1.toNatClampNeg) : Int32) (fun v5 =>
                                          if ¬ (1000 : Int32) = 0 then
                                            if (KH x0).1 = 10 then
                                              Option.bind (f_X12_changes x0 r4.1 ((v5 + x3) - (v5 + x3) / (1000 : Int32) * (1000 : Int32)) r4.2) (fun r6 =>
                                                some (v5, r6.2)
                                                )
                                            else none
                                          else none
                                          )
                                      else none
                                    else none
                                    )
                                else none
                              else
                                if (KH x0).1 = 10 then
                                  Option.bind (f_X12_asksFor x0 x1 x2 (1 : Int32) r3.2) (fun r7 =>
                                    if r7.1 = (0 : Int32) then
                                      f_X12_add_83 (-1 : Int32) r7.2
                                    else
                                      f_X12_add_83 (0 : Int32) r7.2
                                    )
                                else none
                              )
                            )
                        else none
                      else
                        f_X12_add_46 x0 r1.2
                    else none
                  else none
              else none
            else none
          else
            f_X12_add_22 x0 r1.2
      else
        some ((0 : Int32), r1.2)
      )
  else none
set_option maxHeartbeats 4000000 in
set_option maxRecDepth 20000 in
theorem s_X12_add (x0 : Nat) (x1 : Int32) (x2 : Int32) (x3 : Int32) (σ : eMem) : ∀ r, f_X12_add x0 x1 x2 x3 σ = some r → Ew false 4 171 [.inr (.inr (x0)), .inl (x1), .inl (x2), .inl (x3)] (hp σ) (cN iI r) := by
  refine T_meth (md := m_X12_add) (d0 := 3) (cv := (cN iI)) rfl (lb rfl) (lb rfl) ?_
  unfold f_X12_add
  show Snd false none _ _ _ _ (0, [(0, .inr (.inr (x0))), (1, .inl (x1)), (2, .inl (x2)), (3, .inl (x3))], [], hp σ, 0, 0)
  refine T_go (S' := (3, [(0, .inr (.inr (x0))), (1, .inl (x1)), (2, .inl (x2)), (3, .inl (x3))], [.inl (x2), .inl (x1), .inr (.inr (x0))], hp σ, 0, 0)) 3 rfl ?_
  refine T_cv (i := iI) (as := [.inr (.inr (x0)), .inl (x1), .inl (x2)]) (rest := []) (st := [.inl (x2), .inl (x1), .inr (.inr (x0))]) rfl rfl rfl ⟨lb rfl, lb rfl, lb rfl, lb rfl⟩ (fun _ h => Ew_le (lb rfl) (s_X12_asksLine x0 x1 x2 σ _ h)) (fun _ r1 => ?_)
  show Snd false none _ _ _ (cN iI) (6, [(0, .inr (.inr (x0))), (1, .inl (x1)), (2, .inl (x2)), (3, .inl (x3))], [.inl (r1.1)], hp r1.2, 0, 0)
  refine T_if_ne 11 rfl rfl (fun _ => ?_) (fun _ => ?_)
  · refine T_go (S' := (13, [(0, .inr (.inr (x0))), (1, .inl (x1)), (2, .inl (x2)), (3, .inl (x3))], [.inl ((1 : Int32)), .inl (x3)], hp r1.2, 0, 0)) 2 rfl ?_
    refine T_icmp_lt 22 rfl rfl (fun _ => ?_) (fun _ => ?_)
    · refine T_loc (ls' := [(0, .inr (.inr (x0)))]) [0] rfl ?_
      exact s_X12_add_22 x0 r1.2
    · refine T_go (S' := (19, [(0, .inr (.inr (x0))), (1, .inl (x1)), (2, .inl (x2)), (3, .inl (x3))], [.inl ((9 : Int32)), .inl (x3)], hp r1.2, 0, 0)) 2 rfl ?_
      refine T_icmp_le 28 rfl rfl (fun _ => ?_) (fun _ => ?_)
      · refine T_go (S' := (29, [(0, .inr (.inr (x0))), (1, .inl (x1)), (2, .inl (x2)), (3, .inl (x3))], [.inr (.inr (x0))], hp r1.2, 0, 0)) 1 rfl ?_
        refine T_getR rfl (fun _ => ?_)
        refine T_go (S' := (33, [(0, .inr (.inr (x0))), (1, .inl (x1)), (2, .inl (x2)), (3, .inl (x3))], [.inl (x1), .inr (.inr ((RH x0 20)))], hp r1.2, 0, 0)) 1 rfl ?_
        refine T_iald rfl (fun _ => ?_)
        refine T_if_gt 46 rfl rfl (fun _ => ?_) (fun _ => ?_)
        · refine T_loc (ls' := [(0, .inr (.inr (x0)))]) [0] rfl ?_
          exact s_X12_add_46 x0 r1.2
        · refine T_go (S' := (38, [(0, .inr (.inr (x0))), (1, .inl (x1)), (2, .inl (x2)), (3, .inl (x3))], [.inr (.inr (x0))], hp r1.2, 0, 0)) 1 rfl ?_
          refine T_getR rfl (fun _ => ?_)
          refine T_go (S' := (42, [(0, .inr (.inr (x0))), (1, .inl (x1)), (2, .inl (x2)), (3, .inl (x3))], [.inl (x1), .inr (.inr ((RH x0 23)))], hp r1.2, 0, 0)) 1 rfl ?_
          refine T_bald rfl (fun _ => ?_)
          refine T_if_eq 52 rfl rfl (fun _ => ?_) (fun _ => ?_)
          · refine T_go (S' := (55, [(0, .inr (.inr (x0))), (1, .inl (x1)), (2, .inl (x2)), (3, .inl (x3))], [.inl (x2), .inl (x1), .inr (.inr (x0))], hp r1.2, 0, 0)) 3 rfl ?_
            refine T_cv (i := iI) (as := [.inr (.inr (x0)), .inl (x1), .inl (x2)]) (rest := []) (st := [.inl (x2), .inl (x1), .inr (.inr (x0))]) rfl rfl rfl ⟨lb rfl, lb rfl, lb rfl, lb rfl⟩ (fun _ h => Ew_le (lb rfl) (s_X12_stateAt x0 x1 x2 r1.2 _ h)) (fun _ r2 => ?_)
            show Snd false none _ _ _ (cN iI) (58, [(0, .inr (.inr (x0))), (1, .inl (x1)), (2, .inl (x2)), (3, .inl (x3))], [.inl (r2.1)], hp r2.2, 0, 0)
            refine T_cs (i := iI) (as := [.inl (r2.1)]) (rest := []) (st := [.inl (r2.1)]) rfl (lb rfl) rfl rfl ⟨lb rfl, lb rfl, lb rfl, lb rfl⟩ (fun _ h => Ew_le (lb rfl) (s_X12_isOwned r2.1 r2.2 _ h)) (fun r3 => ?_)
            show Snd false none _ _ _ (cN iI) (61, [(0, .inr (.inr (x0))), (1, .inl (x1)), (2, .inl (x2)), (3, .inl (x3))], [.inl (r3.1)], hp r3.2, 0, 0)
            refine T_if_ne 84 rfl rfl (fun _ => ?_) (fun _ => ?_)
            · refine T_go (S' := (87, [(0, .inr (.inr (x0))), (1, .inl (x1)), (2, .inl (x2)), (3, .inl (x3))], [.inl (x2), .inl (x1), .inr (.inr (x0))], hp r3.2, 0, 0)) 3 rfl ?_
              refine T_cv (i := iI) (as := [.inr (.inr (x0)), .inl (x1), .inl (x2)]) (rest := []) (st := [.inl (x2), .inl (x1), .inr (.inr (x0))]) rfl rfl rfl ⟨lb rfl, lb rfl, lb rfl, lb rfl⟩ (fun _ h => Ew_le (lb rfl) (s_X12_placeOf x0 x1 x2 r3.2 _ h)) (fun _ r4 => ?_)
              show Snd false none _ _ _ (cN iI) (90, [(0, .inr (.inr (x0))), (1, .inl (x1)), (2, .inl (x2)), (3, .inl (x3))], [.inl (r4.1)], hp r4.2, 0, 0)
              refine T_go (S' := (93, [(4, .inl (r4.1)), (0, .inr (.inr (x0))), (1, .inl (x1)), (2, .inl (x2)), (3, .inl (x3))], [.inr (.inr (x0))], hp r4.2, 0, 0)) 2 rfl ?_
              refine T_getR rfl (fun _ => ?_)
              refine T_go (S' := (98, [(4, .inl (r4.1)), (0, .inr (.inr (x0))), (1, .inl (x1)), (2, .inl (x2)), (3, .inl (x3))], [.inl (r4.1), .inr (.inr ((RH x0 14)))], hp r4.2, 0, 0)) 1 rfl ?_
              refine T_iald rfl (fun _ => ?_)
              refine T_go (S' := (101, [(5, .inl ((r4.2.1 (RH x0 14) r4.1.toNatClampNeg))), (4, .inl (r4.1)), (0, .inr (.inr (x0))), (1, .inl (x1)), (2, .inl (x2)), (3, .inl (x3))], [], hp r4.2, 0, 0)) 1 rfl ?_
              refine T_let (Sf := fun v5 => (101, [(5, .inl (v5)), (4, .inl (r4.1)), (0, .inr (.inr (x0))), (1, .inl (x1)), (2, .inl (x2)), (3, .inl (x3))], [], hp r4.2, 0, 0)) (fun v5 => ?_)
              refine T_go (S' := (111, [(5, .inl (v5)), (4, .inl (r4.1)), (0, .inr (.inr (x0))), (1, .inl (x1)), (2, .inl (x2)), (3, .inl (x3))], [.inl ((1000 : Int32)), .inl ((v5 + x3)), .inl (r4.1), .inr (.inr (x0))], hp r4.2, 0, 0)) 6 rfl ?_
              refine T_irem rfl (fun _ => ?_)
              refine T_cv (i := iU) (as := [.inr (.inr (x0)), .inl (r4.1), .inl (((v5 + x3) - (v5 + x3) / (1000 : Int32) * (1000 : Int32)))]) (rest := []) (st := [.inl (((v5 + x3) - (v5 + x3) / (1000 : Int32) * (1000 : Int32))), .inl (r4.1), .inr (.inr (x0))]) rfl rfl rfl ⟨lb rfl, lb rfl, lb rfl, lb rfl⟩ (fun _ h => Ew_le (lb rfl) (s_X12_changes x0 r4.1 ((v5 + x3) - (v5 + x3) / (1000 : Int32) * (1000 : Int32)) r4.2 _ h)) (fun _ r6 => ?_)
              show Snd false none _ _ _ (cN iI) (115, [(5, .inl (v5)), (4, .inl (r4.1)), (0, .inr (.inr (x0))), (1, .inl (x1)), (2, .inl (x2)), (3, .inl (x3))], [], hp r6.2, 0, 0)
              refine T_go (S' := (117, [(5, .inl (v5)), (4, .inl (r4.1)), (0, .inr (.inr (x0))), (1, .inl (x1)), (2, .inl (x2)), (3, .inl (x3))], [.inl (v5)], hp r6.2, 0, 0)) 1 rfl ?_
              exact T_ret rfl
            · refine T_go (S' := (68, [(0, .inr (.inr (x0))), (1, .inl (x1)), (2, .inl (x2)), (3, .inl (x3))], [.inl ((1 : Int32)), .inl (x2), .inl (x1), .inr (.inr (x0))], hp r3.2, 0, 0)) 4 rfl ?_
              refine T_cv (i := iI) (as := [.inr (.inr (x0)), .inl (x1), .inl (x2), .inl ((1 : Int32))]) (rest := []) (st := [.inl ((1 : Int32)), .inl (x2), .inl (x1), .inr (.inr (x0))]) rfl rfl rfl ⟨lb rfl, lb rfl, lb rfl, lb rfl⟩ (fun _ h => Ew_le (lb rfl) (s_X12_asksFor x0 x1 x2 (1 : Int32) r3.2 _ h)) (fun _ r7 => ?_)
              show Snd false none _ _ _ (cN iI) (71, [(0, .inr (.inr (x0))), (1, .inl (x1)), (2, .inl (x2)), (3, .inl (x3))], [.inl (r7.1)], hp r7.2, 0, 0)
              refine T_go (S' := (75, [(4, .inl (r7.1)), (0, .inr (.inr (x0))), (1, .inl (x1)), (2, .inl (x2)), (3, .inl (x3))], [.inl (r7.1)], hp r7.2, 0, 0)) 2 rfl ?_
              refine T_if_eq 82 rfl rfl (fun _ => ?_) (fun _ => ?_)
              · refine T_go (S' := (83, [(4, .inl (r7.1)), (0, .inr (.inr (x0))), (1, .inl (x1)), (2, .inl (x2)), (3, .inl (x3))], [.inl ((-1 : Int32))], hp r7.2, 0, 0)) 1 rfl ?_
                refine T_loc (ls' := []) [] rfl ?_
                exact s_X12_add_83 (-1 : Int32) r7.2
              · refine T_go (S' := (83, [(4, .inl (r7.1)), (0, .inr (.inr (x0))), (1, .inl (x1)), (2, .inl (x2)), (3, .inl (x3))], [.inl ((0 : Int32))], hp r7.2, 0, 0)) 2 rfl ?_
                refine T_loc (ls' := []) [] rfl ?_
                exact s_X12_add_83 (0 : Int32) r7.2
          · refine T_loc (ls' := [(0, .inr (.inr (x0)))]) [0] rfl ?_
            exact s_X12_add_46 x0 r1.2
      · refine T_loc (ls' := [(0, .inr (.inr (x0)))]) [0] rfl ?_
        exact s_X12_add_22 x0 r1.2
  · refine T_go (S' := (10, [(0, .inr (.inr (x0))), (1, .inl (x1)), (2, .inl (x2)), (3, .inl (x3))], [.inl ((0 : Int32))], hp r1.2, 0, 0)) 1 rfl ?_
    exact T_ret rfl
def f_X12_begin_31 (x0 : Nat) (σ : eMem) : Option (Int32 × eMem) :=
  if (KH x0).1 = 10 then
    Option.bind (f_X12_fails x0 (2 : Int32) σ) (fun r1 =>
      some (r1.1, r1.2)
      )
  else none
set_option maxHeartbeats 4000000 in
set_option maxRecDepth 20000 in
theorem s_X12_begin_31 (x0 : Nat) (σ : eMem) : Snd false none 1 m_X12_begin (f_X12_begin_31 x0 σ) (cN iI) (31, [(0, .inr (.inr (x0)))], [], hp σ, 0, 0) := by
  unfold f_X12_begin_31
  refine T_go (S' := (33, [(0, .inr (.inr (x0)))], [.inl ((2 : Int32)), .inr (.inr (x0))], hp σ, 0, 0)) 2 rfl ?_
  refine T_cv (i := iI) (as := [.inr (.inr (x0)), .inl ((2 : Int32))]) (rest := []) (st := [.inl ((2 : Int32)), .inr (.inr (x0))]) rfl rfl rfl ⟨lb rfl, lb rfl, lb rfl, lb rfl⟩ (fun _ h => Ew_le (lb rfl) (s_X12_fails x0 (2 : Int32) σ _ h)) (fun _ r1 => ?_)
  show Snd false none _ _ _ (cN iI) (36, [(0, .inr (.inr (x0)))], [.inl (r1.1)], hp r1.2, 0, 0)
  exact T_ret rfl
def f_X12_begin (x0 : Nat) (x1 : Int32) (σ : eMem) : Option (Int32 × eMem) :=
  Option.bind (f_X12_isCore x1 σ) (fun r1 =>
    if (KH x0).1 = 10 then
      Option.bind (f_X12_asks x0 r1.1 r1.2) (fun r2 =>
        if ¬ r2.1 = (0 : Int32) then
          if (KH x0).1 = 10 then
            if (KH (RH x0 23)).1 = 13 ∧ eix x1 (KH (RH x0 23)).2 = true then
              if ¬ (r2.2.1 (RH x0 23) x1.toNatClampNeg) = (0 : Int32) then
                f_X12_begin_31 x0 r2.2
              else
                if (KH x0).1 = 10 then
                  if (KH (RH x0 20)).1 = 11 ∧ eix x1 (KH (RH x0 20)).2 = true then
                    if (r2.2.1 (RH x0 20) x1.toNatClampNeg) ≤ (0 : Int32) then
                      if (KH x0).1 = 10 then
                        if (KH (RH x0 23)).1 = 13 ∧ eix x1 (KH (RH x0 23)).2 = true ∧ eB (1 : Int32) = true then eLet ((eup r2.2.1 (RH x0 23) x1.toNatClampNeg (1 : Int32), r2.2.2) : eMem) (fun σ3 =>
                          if (KH x0).1 = 10 then
                            if (KH (RH x0 24)).1 = 13 ∧ eix x1 (KH (RH x0 24)).2 = true ∧ eB (0 : Int32) = true then eLet ((eup σ3.1 (RH x0 24) x1.toNatClampNeg (0 : Int32), σ3.2) : eMem) (fun σ4 =>
                              if (KH x0).1 = 10 then
                                if (KH (RH x0 26)).1 = 11 ∧ eix x1 (KH (RH x0 26)).2 = true then eLet ((eup σ4.1 (RH x0 26) x1.toNatClampNeg (0 : Int32), σ4.2) : eMem) (fun σ5 =>
                                  if (KH x0).1 = 10 then
                                    if (KH (RH x0 27)).1 = 11 ∧ eix x1 (KH (RH x0 27)).2 = true then eLet ((eup σ5.1 (RH x0 27) x1.toNatClampNeg (0 : Int32), σ5.2) : eMem) (fun σ6 =>
                                      if (KH x0).1 = 10 then
                                        if (KH (RH x0 25)).1 = 11 ∧ eix x1 (KH (RH x0 25)).2 = true then
                                          some ((σ6.1 (RH x0 25) x1.toNatClampNeg), σ6)
                                        else none
                                      else none
                                      ) else none
                                  else none
                                  ) else none
                              else none
                              ) else none
                          else none
                          ) else none
                      else none
                    else
                      f_X12_begin_31 x0 r2.2
                  else none
                else none
            else none
          else none
        else
          some ((0 : Int32), r2.2)
        )
    else none
    )
set_option maxHeartbeats 4000000 in
set_option maxRecDepth 20000 in
theorem s_X12_begin (x0 : Nat) (x1 : Int32) (σ : eMem) : ∀ r, f_X12_begin x0 x1 σ = some r → Ew false 2 172 [.inr (.inr (x0)), .inl (x1)] (hp σ) (cN iI r) := by
  refine T_meth (md := m_X12_begin) (d0 := 1) (cv := (cN iI)) rfl (lb rfl) (lb rfl) ?_
  unfold f_X12_begin
  show Snd false none _ _ _ _ (0, [(0, .inr (.inr (x0))), (1, .inl (x1))], [], hp σ, 0, 0)
  refine T_go (S' := (2, [(0, .inr (.inr (x0))), (1, .inl (x1))], [.inl (x1), .inr (.inr (x0))], hp σ, 0, 0)) 2 rfl ?_
  refine T_cs (i := iI) (as := [.inl (x1)]) (rest := [.inr (.inr (x0))]) (st := [.inl (x1), .inr (.inr (x0))]) rfl (lb rfl) rfl rfl ⟨lb rfl, lb rfl, lb rfl, lb rfl⟩ (fun _ h => Ew_le (lb rfl) (s_X12_isCore x1 σ _ h)) (fun r1 => ?_)
  show Snd false none _ _ _ (cN iI) (5, [(0, .inr (.inr (x0))), (1, .inl (x1))], [.inl (r1.1), .inr (.inr (x0))], hp r1.2, 0, 0)
  refine T_cv (i := iI) (as := [.inr (.inr (x0)), .inl (r1.1)]) (rest := []) (st := [.inl (r1.1), .inr (.inr (x0))]) rfl rfl rfl ⟨lb rfl, lb rfl, lb rfl, lb rfl⟩ (fun _ h => Ew_le (lb rfl) (s_X12_asks x0 r1.1 r1.2 _ h)) (fun _ r2 => ?_)
  show Snd false none _ _ _ (cN iI) (8, [(0, .inr (.inr (x0))), (1, .inl (x1))], [.inl (r2.1)], hp r2.2, 0, 0)
  refine T_if_ne 13 rfl rfl (fun _ => ?_) (fun _ => ?_)
  · refine T_go (S' := (14, [(0, .inr (.inr (x0))), (1, .inl (x1))], [.inr (.inr (x0))], hp r2.2, 0, 0)) 1 rfl ?_
    refine T_getR rfl (fun _ => ?_)
    refine T_go (S' := (18, [(0, .inr (.inr (x0))), (1, .inl (x1))], [.inl (x1), .inr (.inr ((RH x0 23)))], hp r2.2, 0, 0)) 1 rfl ?_
    refine T_bald rfl (fun _ => ?_)
    refine T_if_ne 31 rfl rfl (fun _ => ?_) (fun _ => ?_)
    · refine T_loc (ls' := [(0, .inr (.inr (x0)))]) [0] rfl ?_
      exact s_X12_begin_31 x0 r2.2
    · refine T_go (S' := (23, [(0, .inr (.inr (x0))), (1, .inl (x1))], [.inr (.inr (x0))], hp r2.2, 0, 0)) 1 rfl ?_
      refine T_getR rfl (fun _ => ?_)
      refine T_go (S' := (27, [(0, .inr (.inr (x0))), (1, .inl (x1))], [.inl (x1), .inr (.inr ((RH x0 20)))], hp r2.2, 0, 0)) 1 rfl ?_
      refine T_iald rfl (fun _ => ?_)
      refine T_if_le 37 rfl rfl (fun _ => ?_) (fun _ => ?_)
      · refine T_go (S' := (38, [(0, .inr (.inr (x0))), (1, .inl (x1))], [.inr (.inr (x0))], hp r2.2, 0, 0)) 1 rfl ?_
        refine T_getR rfl (fun _ => ?_)
        refine T_go (S' := (43, [(0, .inr (.inr (x0))), (1, .inl (x1))], [.inl ((1 : Int32)), .inl (x1), .inr (.inr ((RH x0 23)))], hp r2.2, 0, 0)) 2 rfl ?_
        refine T_bast rfl (fun _ => ?_)
        refine T_let (Sf := fun σ3 => (44, [(0, .inr (.inr (x0))), (1, .inl (x1))], [], hp σ3, 0, 0)) (fun σ3 => ?_)
        refine T_go (S' := (45, [(0, .inr (.inr (x0))), (1, .inl (x1))], [.inr (.inr (x0))], hp σ3, 0, 0)) 1 rfl ?_
        refine T_getR rfl (fun _ => ?_)
        refine T_go (S' := (50, [(0, .inr (.inr (x0))), (1, .inl (x1))], [.inl ((0 : Int32)), .inl (x1), .inr (.inr ((RH x0 24)))], hp σ3, 0, 0)) 2 rfl ?_
        refine T_bast rfl (fun _ => ?_)
        refine T_let (Sf := fun σ4 => (51, [(0, .inr (.inr (x0))), (1, .inl (x1))], [], hp σ4, 0, 0)) (fun σ4 => ?_)
        refine T_go (S' := (52, [(0, .inr (.inr (x0))), (1, .inl (x1))], [.inr (.inr (x0))], hp σ4, 0, 0)) 1 rfl ?_
        refine T_getR rfl (fun _ => ?_)
        refine T_go (S' := (57, [(0, .inr (.inr (x0))), (1, .inl (x1))], [.inl ((0 : Int32)), .inl (x1), .inr (.inr ((RH x0 26)))], hp σ4, 0, 0)) 2 rfl ?_
        refine T_iast rfl (fun _ => ?_)
        refine T_let (Sf := fun σ5 => (58, [(0, .inr (.inr (x0))), (1, .inl (x1))], [], hp σ5, 0, 0)) (fun σ5 => ?_)
        refine T_go (S' := (59, [(0, .inr (.inr (x0))), (1, .inl (x1))], [.inr (.inr (x0))], hp σ5, 0, 0)) 1 rfl ?_
        refine T_getR rfl (fun _ => ?_)
        refine T_go (S' := (64, [(0, .inr (.inr (x0))), (1, .inl (x1))], [.inl ((0 : Int32)), .inl (x1), .inr (.inr ((RH x0 27)))], hp σ5, 0, 0)) 2 rfl ?_
        refine T_iast rfl (fun _ => ?_)
        refine T_let (Sf := fun σ6 => (65, [(0, .inr (.inr (x0))), (1, .inl (x1))], [], hp σ6, 0, 0)) (fun σ6 => ?_)
        refine T_go (S' := (66, [(0, .inr (.inr (x0))), (1, .inl (x1))], [.inr (.inr (x0))], hp σ6, 0, 0)) 1 rfl ?_
        refine T_getR rfl (fun _ => ?_)
        refine T_go (S' := (70, [(0, .inr (.inr (x0))), (1, .inl (x1))], [.inl (x1), .inr (.inr ((RH x0 25)))], hp σ6, 0, 0)) 1 rfl ?_
        refine T_iald rfl (fun _ => ?_)
        exact T_ret rfl
      · refine T_loc (ls' := [(0, .inr (.inr (x0)))]) [0] rfl ?_
        exact s_X12_begin_31 x0 r2.2
  · refine T_go (S' := (12, [(0, .inr (.inr (x0))), (1, .inl (x1))], [.inl ((0 : Int32))], hp r2.2, 0, 0)) 1 rfl ?_
    exact T_ret rfl
def f_X12_end_L120 : Nat → (Nat × Int32 × Int32 × Int32 ⊕ (Nat × Int32 × Int32 × Int32 × Int32 ⊕ (Nat × Int32 × Int32 × Int32 × Int32 ⊕ (Nat × Int32 × Int32 ⊕ (Nat × Int32 × Int32 × Int32 ⊕ (Nat × Int32 × Int32 × Int32)))))) → eMem → Option (Int32 × eMem)
  | 0, _, _ => none
  | n + 1, .inl (x0, x1, x2, x3), σ =>
    if (16 : Int32) ≤ x3 then
      if ¬ x2 = (0 : Int32) then
        if (KH x0).1 = 10 then
          if (KH (RH x0 23)).1 = 13 ∧ eix x1 (KH (RH x0 23)).2 = true ∧ eB (0 : Int32) = true then eLet ((eup σ.1 (RH x0 23) x1.toNatClampNeg (0 : Int32), σ.2) : eMem) (fun σ1 =>
            if (KH x0).1 = 10 then
              if (KH (RH x0 31)).1 = 11 ∧ eix (7 : Int32) (KH (RH x0 31)).2 = true then
                if (KH (RH x0 31)).1 = 11 ∧ eix (7 : Int32) (KH (RH x0 31)).2 = true then eLet ((eup σ1.1 (RH x0 31) (7 : Int32).toNatClampNeg ((σ1.1 (RH x0 31) (7 : Int32).toNatClampNeg) + (1 : Int32)), σ1.2) : eMem) (fun σ2 =>
                  some ((1 : Int32), σ2)
                  ) else none
              else none
            else none
            ) else none
        else none
      else
        some ((-1 : Int32), σ)
    else
      if (KH x0).1 = 10 then
        if (KH (RH x0 27)).1 = 11 ∧ eix x1 (KH (RH x0 27)).2 = true then
          if ¬ (((σ.1 (RH x0 27) x1.toNatClampNeg) >>> (x3 &&& 31)) &&& (1 : Int32)) = (1 : Int32) then
            f_X12_end_L120 n (.inr (.inl (x0, x1, x2, x3, (0 : Int32)))) σ
          else
            f_X12_end_L120 n (.inr (.inl (x0, x1, x2, x3, (1 : Int32)))) σ
        else none
      else none
  | n + 1, .inr (.inl (x0, x1, x2, x3, s0)), σ =>
    if s0 = (0 : Int32) then
      f_X12_end_L120 n (.inr (.inr (.inl (x0, x1, x2, x3, s0)))) σ
    else
      if x2 = (0 : Int32) then
        f_X12_end_L120 n (.inr (.inr (.inl (x0, x1, x2, x3, s0)))) σ
      else
        if (KH x0).1 = 10 then
          Option.bind (f_X12_placeOf x0 x1 x3 σ) (fun r1 =>
            if (KH x0).1 = 10 then
              if (KH (RH x0 28)).1 = 11 ∧ eix (((16 : Int32) * x1) + x3) (KH (RH x0 28)).2 = true then
                if (KH x0).1 = 10 then
                  Option.bind (f_X12_changes x0 r1.1 (r1.2.1 (RH x0 28) (((16 : Int32) * x1) + x3).toNatClampNeg) r1.2) (fun r2 =>
                    f_X12_end_L120 n (.inr (.inr (.inr (.inr (.inr ((x0, x1, x2, x3))))))) r2.2
                    )
                else none
              else none
            else none
            )
        else none
  | n + 1, .inr (.inr (.inl (x0, x1, x2, x3, x4))), σ =>
    if x4 = (0 : Int32) then
      f_X12_end_L120 n (.inr (.inr (.inr (.inr (.inr ((x0, x1, x2, x3))))))) σ
    else
      if (KH x0).1 = 10 then
        Option.bind (f_X12_stateAt x0 x1 x3 σ) (fun r1 =>
          Option.bind (f_X12_isOwned r1.1 r1.2) (fun r2 =>
            if ¬ r2.1 = (0 : Int32) then
              f_X12_end_L120 n (.inr (.inr (.inr (.inr (.inr ((x0, x1, x2, x3))))))) r2.2
            else
              if (KH x0).1 = 10 then
                Option.bind (f_X12_asksFor x0 x1 x3 (1 : Int32) r2.2) (fun r3 =>
                  if r3.1 = (0 : Int32) then
                    f_X12_end_L120 n (.inr (.inr (.inr (.inl (x0, x1, x3))))) r3.2
                  else
                    if x2 = (0 : Int32) then
                      f_X12_end_L120 n (.inr (.inr (.inr (.inl (x0, x1, x3))))) r3.2
                    else
                      f_X12_end_L120 n (.inr (.inr (.inr (.inr (.inl (x0, x1, x3, (1 : Int32))))))) r3.2
                  )
              else none
            )
          )
      else none
  | n + 1, .inr (.inr (.inr (.inl (x0, x1, x3)))), σ =>
    f_X12_end_L120 n (.inr (.inr (.inr (.inr (.inl (x0, x1, x3, (0 : Int32))))))) σ
  | n + 1, .inr (.inr (.inr (.inr (.inl (x0, x1, x3, s0))))), σ =>
    f_X12_end_L120 n (.inr (.inr (.inr (.inr (.inr ((x0, x1, s0, x3))))))) σ
  | n + 1, .inr (.inr (.inr (.inr (.inr ((x0, x1, x2, x3)))))), σ =>
    f_X12_end_L120 n (.inl (x0, x1, x2, (x3 + (1 : Int32)))) σ
set_option maxHeartbeats 4000000 in
set_option maxRecDepth 20000 in
theorem s_X12_end_L120 : ∀ (n : Nat), (∀ (x0 : Nat) (x1 : Int32) (x2 : Int32) (x3 : Int32) (σ : eMem), Snd false none 3 m_X12_end (f_X12_end_L120 n (.inl (x0, x1, x2, x3)) σ) (cN iI) (120, [(0, .inr (.inr (x0))), (1, .inl (x1)), (2, .inl (x2)), (3, .inl (x3))], [], hp σ, 0, 0)) ∧ (∀ (x0 : Nat) (x1 : Int32) (x2 : Int32) (x3 : Int32) (s0 : Int32) (σ : eMem), Snd false none 3 m_X12_end (f_X12_end_L120 n (.inr (.inl (x0, x1, x2, x3, s0))) σ) (cN iI) (145, [(0, .inr (.inr (x0))), (1, .inl (x1)), (2, .inl (x2)), (3, .inl (x3))], [.inl (s0)], hp σ, 0, 0)) ∧ (∀ (x0 : Nat) (x1 : Int32) (x2 : Int32) (x3 : Int32) (x4 : Int32) (σ : eMem), Snd false none 3 m_X12_end (f_X12_end_L120 n (.inr (.inr (.inl (x0, x1, x2, x3, x4)))) σ) (cN iI) (180, [(0, .inr (.inr (x0))), (1, .inl (x1)), (2, .inl (x2)), (3, .inl (x3)), (4, .inl (x4))], [], hp σ, 0, 0)) ∧ (∀ (x0 : Nat) (x1 : Int32) (x3 : Int32) (σ : eMem), Snd false none 3 m_X12_end (f_X12_end_L120 n (.inr (.inr (.inr (.inl (x0, x1, x3))))) σ) (cN iI) (215, [(0, .inr (.inr (x0))), (1, .inl (x1)), (3, .inl (x3))], [], hp σ, 0, 0)) ∧ (∀ (x0 : Nat) (x1 : Int32) (x3 : Int32) (s0 : Int32) (σ : eMem), Snd false none 3 m_X12_end (f_X12_end_L120 n (.inr (.inr (.inr (.inr (.inl (x0, x1, x3, s0)))))) σ) (cN iI) (216, [(0, .inr (.inr (x0))), (1, .inl (x1)), (3, .inl (x3))], [.inl (s0)], hp σ, 0, 0)) ∧ (∀ (x0 : Nat) (x1 : Int32) (x2 : Int32) (x3 : Int32) (σ : eMem), Snd false none 3 m_X12_end (f_X12_end_L120 n (.inr (.inr (.inr (.inr (.inr ((x0, x1, x2, x3))))))) σ) (cN iI) (217, [(0, .inr (.inr (x0))), (1, .inl (x1)), (2, .inl (x2)), (3, .inl (x3))], [], hp σ, 0, 0)) := by
  intro n
  induction n with
  | zero => exact ⟨fun _ _ _ _ _ => T_none, fun _ _ _ _ _ _ => T_none, fun _ _ _ _ _ _ => T_none, fun _ _ _ _ => T_none, fun _ _ _ _ _ => T_none, fun _ _ _ _ _ => T_none⟩
  | succ n ih =>
    refine ⟨?_, ?_, ?_, ?_, ?_, ?_⟩
    · intro x0 x1 x2 x3 σ
      unfold f_X12_end_L120
      refine T_go (S' := (123, [(0, .inr (.inr (x0))), (1, .inl (x1)), (2, .inl (x2)), (3, .inl (x3))], [.inl ((16 : Int32)), .inl (x3)], hp σ, 0, 0)) 2 rfl ?_
      refine T_icmp_ge 223 rfl rfl (fun _ => ?_) (fun _ => ?_)
      · refine T_go (S' := (224, [(0, .inr (.inr (x0))), (1, .inl (x1)), (2, .inl (x2)), (3, .inl (x3))], [.inl (x2)], hp σ, 0, 0)) 1 rfl ?_
        refine T_if_ne 229 rfl rfl (fun _ => ?_) (fun _ => ?_)
        · refine T_go (S' := (230, [(0, .inr (.inr (x0))), (1, .inl (x1)), (2, .inl (x2)), (3, .inl (x3))], [.inr (.inr (x0))], hp σ, 0, 0)) 1 rfl ?_
          refine T_getR rfl (fun _ => ?_)
          refine T_go (S' := (235, [(0, .inr (.inr (x0))), (1, .inl (x1)), (2, .inl (x2)), (3, .inl (x3))], [.inl ((0 : Int32)), .inl (x1), .inr (.inr ((RH x0 23)))], hp σ, 0, 0)) 2 rfl ?_
          refine T_bast rfl (fun _ => ?_)
          refine T_let (Sf := fun σ1 => (236, [(0, .inr (.inr (x0))), (1, .inl (x1)), (2, .inl (x2)), (3, .inl (x3))], [], hp σ1, 0, 0)) (fun σ1 => ?_)
          refine T_go (S' := (237, [(0, .inr (.inr (x0))), (1, .inl (x1)), (2, .inl (x2)), (3, .inl (x3))], [.inr (.inr (x0))], hp σ1, 0, 0)) 1 rfl ?_
          refine T_getR rfl (fun _ => ?_)
          refine T_go (S' := (243, [(0, .inr (.inr (x0))), (1, .inl (x1)), (2, .inl (x2)), (3, .inl (x3))], [.inl ((7 : Int32)), .inr (.inr ((RH x0 31))), .inl ((7 : Int32)), .inr (.inr ((RH x0 31)))], hp σ1, 0, 0)) 2 rfl ?_
          refine T_iald rfl (fun _ => ?_)
          refine T_go (S' := (246, [(0, .inr (.inr (x0))), (1, .inl (x1)), (2, .inl (x2)), (3, .inl (x3))], [.inl (((σ1.1 (RH x0 31) (7 : Int32).toNatClampNeg) + (1 : Int32))), .inl ((7 : Int32)), .inr (.inr ((RH x0 31)))], hp σ1, 0, 0)) 2 rfl ?_
          refine T_iast rfl (fun _ => ?_)
          refine T_let (Sf := fun σ2 => (247, [(0, .inr (.inr (x0))), (1, .inl (x1)), (2, .inl (x2)), (3, .inl (x3))], [], hp σ2, 0, 0)) (fun σ2 => ?_)
          refine T_go (S' := (248, [(0, .inr (.inr (x0))), (1, .inl (x1)), (2, .inl (x2)), (3, .inl (x3))], [.inl ((1 : Int32))], hp σ2, 0, 0)) 1 rfl ?_
          exact T_ret rfl
        · refine T_go (S' := (228, [(0, .inr (.inr (x0))), (1, .inl (x1)), (2, .inl (x2)), (3, .inl (x3))], [.inl ((-1 : Int32))], hp σ, 0, 0)) 1 rfl ?_
          exact T_ret rfl
      · refine T_go (S' := (127, [(0, .inr (.inr (x0))), (1, .inl (x1)), (2, .inl (x2)), (3, .inl (x3))], [.inr (.inr (x0))], hp σ, 0, 0)) 1 rfl ?_
        refine T_getR rfl (fun _ => ?_)
        refine T_go (S' := (131, [(0, .inr (.inr (x0))), (1, .inl (x1)), (2, .inl (x2)), (3, .inl (x3))], [.inl (x1), .inr (.inr ((RH x0 27)))], hp σ, 0, 0)) 1 rfl ?_
        refine T_iald rfl (fun _ => ?_)
        refine T_go (S' := (137, [(0, .inr (.inr (x0))), (1, .inl (x1)), (2, .inl (x2)), (3, .inl (x3))], [.inl ((1 : Int32)), .inl ((((σ.1 (RH x0 27) x1.toNatClampNeg) >>> (x3 &&& 31)) &&& (1 : Int32)))], hp σ, 0, 0)) 5 rfl ?_
        refine T_icmp_ne 144 rfl rfl (fun _ => ?_) (fun _ => ?_)
        · refine T_go (S' := (145, [(0, .inr (.inr (x0))), (1, .inl (x1)), (2, .inl (x2)), (3, .inl (x3))], [.inl ((0 : Int32))], hp σ, 0, 0)) 1 rfl ?_
          refine T_loc (ls' := [(0, .inr (.inr (x0))), (1, .inl (x1)), (2, .inl (x2)), (3, .inl (x3))]) [0, 1, 2, 3] rfl ?_
          exact (ih.2.1) x0 x1 x2 x3 (0 : Int32) σ
        · refine T_go (S' := (145, [(0, .inr (.inr (x0))), (1, .inl (x1)), (2, .inl (x2)), (3, .inl (x3))], [.inl ((1 : Int32))], hp σ, 0, 0)) 2 rfl ?_
          refine T_loc (ls' := [(0, .inr (.inr (x0))), (1, .inl (x1)), (2, .inl (x2)), (3, .inl (x3))]) [0, 1, 2, 3] rfl ?_
          exact (ih.2.1) x0 x1 x2 x3 (1 : Int32) σ
    · intro x0 x1 x2 x3 s0 σ
      unfold f_X12_end_L120
      refine T_go (S' := (149, [(4, .inl (s0)), (0, .inr (.inr (x0))), (1, .inl (x1)), (2, .inl (x2)), (3, .inl (x3))], [.inl (s0)], hp σ, 0, 0)) 2 rfl ?_
      refine T_if_eq 180 rfl rfl (fun _ => ?_) (fun _ => ?_)
      · refine T_loc (ls' := [(0, .inr (.inr (x0))), (1, .inl (x1)), (2, .inl (x2)), (3, .inl (x3)), (4, .inl (s0))]) [1, 2, 3, 4, 0] rfl ?_
        exact (ih.2.2.1) x0 x1 x2 x3 s0 σ
      · refine T_go (S' := (153, [(4, .inl (s0)), (0, .inr (.inr (x0))), (1, .inl (x1)), (2, .inl (x2)), (3, .inl (x3))], [.inl (x2)], hp σ, 0, 0)) 1 rfl ?_
        refine T_if_eq 180 rfl rfl (fun _ => ?_) (fun _ => ?_)
        · refine T_loc (ls' := [(0, .inr (.inr (x0))), (1, .inl (x1)), (2, .inl (x2)), (3, .inl (x3)), (4, .inl (s0))]) [1, 2, 3, 4, 0] rfl ?_
          exact (ih.2.2.1) x0 x1 x2 x3 s0 σ
        · refine T_go (S' := (160, [(4, .inl (s0)), (0, .inr (.inr (x0))), (1, .inl (x1)), (2, .inl (x2)), (3, .inl (x3))], [.inl (x3), .inl (x1), .inr (.inr (x0)), .inr (.inr (x0))], hp σ, 0, 0)) 4 rfl ?_
          refine T_cv (i := iI) (as := [.inr (.inr (x0)), .inl (x1), .inl (x3)]) (rest := [.inr (.inr (x0))]) (st := [.inl (x3), .inl (x1), .inr (.inr (x0)), .inr (.inr (x0))]) rfl rfl rfl ⟨lb rfl, lb rfl, lb rfl, lb rfl⟩ (fun _ h => Ew_le (lb rfl) (s_X12_placeOf x0 x1 x3 σ _ h)) (fun _ r1 => ?_)
          show Snd false none _ _ _ (cN iI) (163, [(4, .inl (s0)), (0, .inr (.inr (x0))), (1, .inl (x1)), (2, .inl (x2)), (3, .inl (x3))], [.inl (r1.1), .inr (.inr (x0))], hp r1.2, 0, 0)
          refine T_go (S' := (164, [(4, .inl (s0)), (0, .inr (.inr (x0))), (1, .inl (x1)), (2, .inl (x2)), (3, .inl (x3))], [.inr (.inr (x0)), .inl (r1.1), .inr (.inr (x0))], hp r1.2, 0, 0)) 1 rfl ?_
          refine T_getR rfl (fun _ => ?_)
          refine T_go (S' := (173, [(4, .inl (s0)), (0, .inr (.inr (x0))), (1, .inl (x1)), (2, .inl (x2)), (3, .inl (x3))], [.inl ((((16 : Int32) * x1) + x3)), .inr (.inr ((RH x0 28))), .inl (r1.1), .inr (.inr (x0))], hp r1.2, 0, 0)) 5 rfl ?_
          refine T_iald rfl (fun _ => ?_)
          refine T_cv (i := iU) (as := [.inr (.inr (x0)), .inl (r1.1), .inl ((r1.2.1 (RH x0 28) (((16 : Int32) * x1) + x3).toNatClampNeg))]) (rest := []) (st := [.inl ((r1.2.1 (RH x0 28) (((16 : Int32) * x1) + x3).toNatClampNeg)), .inl (r1.1), .inr (.inr (x0))]) rfl rfl rfl ⟨lb rfl, lb rfl, lb rfl, lb rfl⟩ (fun _ h => Ew_le (lb rfl) (s_X12_changes x0 r1.1 (r1.2.1 (RH x0 28) (((16 : Int32) * x1) + x3).toNatClampNeg) r1.2 _ h)) (fun _ r2 => ?_)
          show Snd false none _ _ _ (cN iI) (177, [(4, .inl (s0)), (0, .inr (.inr (x0))), (1, .inl (x1)), (2, .inl (x2)), (3, .inl (x3))], [], hp r2.2, 0, 0)
          refine T_go (S' := (217, [(4, .inl (s0)), (0, .inr (.inr (x0))), (1, .inl (x1)), (2, .inl (x2)), (3, .inl (x3))], [], hp r2.2, 0, 0)) 1 rfl ?_
          refine T_loc (ls' := [(0, .inr (.inr (x0))), (1, .inl (x1)), (2, .inl (x2)), (3, .inl (x3))]) [1, 2, 3, 4] rfl ?_
          exact (ih.2.2.2.2.2) x0 x1 x2 x3 r2.2
    · intro x0 x1 x2 x3 x4 σ
      unfold f_X12_end_L120
      refine T_go (S' := (182, [(0, .inr (.inr (x0))), (1, .inl (x1)), (2, .inl (x2)), (3, .inl (x3)), (4, .inl (x4))], [.inl (x4)], hp σ, 0, 0)) 1 rfl ?_
      refine T_if_eq 217 rfl rfl (fun _ => ?_) (fun _ => ?_)
      · refine T_loc (ls' := [(0, .inr (.inr (x0))), (1, .inl (x1)), (2, .inl (x2)), (3, .inl (x3))]) [0, 1, 2, 3] rfl ?_
        exact (ih.2.2.2.2.2) x0 x1 x2 x3 σ
      · refine T_go (S' := (188, [(0, .inr (.inr (x0))), (1, .inl (x1)), (2, .inl (x2)), (3, .inl (x3)), (4, .inl (x4))], [.inl (x3), .inl (x1), .inr (.inr (x0))], hp σ, 0, 0)) 3 rfl ?_
        refine T_cv (i := iI) (as := [.inr (.inr (x0)), .inl (x1), .inl (x3)]) (rest := []) (st := [.inl (x3), .inl (x1), .inr (.inr (x0))]) rfl rfl rfl ⟨lb rfl, lb rfl, lb rfl, lb rfl⟩ (fun _ h => Ew_le (lb rfl) (s_X12_stateAt x0 x1 x3 σ _ h)) (fun _ r1 => ?_)
        show Snd false none _ _ _ (cN iI) (191, [(0, .inr (.inr (x0))), (1, .inl (x1)), (2, .inl (x2)), (3, .inl (x3)), (4, .inl (x4))], [.inl (r1.1)], hp r1.2, 0, 0)
        refine T_cs (i := iI) (as := [.inl (r1.1)]) (rest := []) (st := [.inl (r1.1)]) rfl (lb rfl) rfl rfl ⟨lb rfl, lb rfl, lb rfl, lb rfl⟩ (fun _ h => Ew_le (lb rfl) (s_X12_isOwned r1.1 r1.2 _ h)) (fun r2 => ?_)
        show Snd false none _ _ _ (cN iI) (194, [(0, .inr (.inr (x0))), (1, .inl (x1)), (2, .inl (x2)), (3, .inl (x3)), (4, .inl (x4))], [.inl (r2.1)], hp r2.2, 0, 0)
        refine T_if_ne 217 rfl rfl (fun _ => ?_) (fun _ => ?_)
        · refine T_loc (ls' := [(0, .inr (.inr (x0))), (1, .inl (x1)), (2, .inl (x2)), (3, .inl (x3))]) [0, 1, 2, 3] rfl ?_
          exact (ih.2.2.2.2.2) x0 x1 x2 x3 r2.2
        · refine T_go (S' := (201, [(0, .inr (.inr (x0))), (1, .inl (x1)), (2, .inl (x2)), (3, .inl (x3)), (4, .inl (x4))], [.inl ((1 : Int32)), .inl (x3), .inl (x1), .inr (.inr (x0))], hp r2.2, 0, 0)) 4 rfl ?_
          refine T_cv (i := iI) (as := [.inr (.inr (x0)), .inl (x1), .inl (x3), .inl ((1 : Int32))]) (rest := []) (st := [.inl ((1 : Int32)), .inl (x3), .inl (x1), .inr (.inr (x0))]) rfl rfl rfl ⟨lb rfl, lb rfl, lb rfl, lb rfl⟩ (fun _ h => Ew_le (lb rfl) (s_X12_asksFor x0 x1 x3 (1 : Int32) r2.2 _ h)) (fun _ r3 => ?_)
          show Snd false none _ _ _ (cN iI) (204, [(0, .inr (.inr (x0))), (1, .inl (x1)), (2, .inl (x2)), (3, .inl (x3)), (4, .inl (x4))], [.inl (r3.1)], hp r3.2, 0, 0)
          refine T_if_eq 215 rfl rfl (fun _ => ?_) (fun _ => ?_)
          · refine T_loc (ls' := [(0, .inr (.inr (x0))), (1, .inl (x1)), (3, .inl (x3))]) [0, 1, 3] rfl ?_
            exact (ih.2.2.2.1) x0 x1 x3 r3.2
          · refine T_go (S' := (208, [(0, .inr (.inr (x0))), (1, .inl (x1)), (2, .inl (x2)), (3, .inl (x3)), (4, .inl (x4))], [.inl (x2)], hp r3.2, 0, 0)) 1 rfl ?_
            refine T_if_eq 215 rfl rfl (fun _ => ?_) (fun _ => ?_)
            · refine T_loc (ls' := [(0, .inr (.inr (x0))), (1, .inl (x1)), (3, .inl (x3))]) [0, 1, 3] rfl ?_
              exact (ih.2.2.2.1) x0 x1 x3 r3.2
            · refine T_go (S' := (216, [(0, .inr (.inr (x0))), (1, .inl (x1)), (2, .inl (x2)), (3, .inl (x3)), (4, .inl (x4))], [.inl ((1 : Int32))], hp r3.2, 0, 0)) 2 rfl ?_
              refine T_loc (ls' := [(0, .inr (.inr (x0))), (1, .inl (x1)), (3, .inl (x3))]) [0, 1, 3] rfl ?_
              exact (ih.2.2.2.2.1) x0 x1 x3 (1 : Int32) r3.2
    · intro x0 x1 x3 σ
      unfold f_X12_end_L120
      refine T_go (S' := (216, [(0, .inr (.inr (x0))), (1, .inl (x1)), (3, .inl (x3))], [.inl ((0 : Int32))], hp σ, 0, 0)) 1 rfl ?_
      refine T_loc (ls' := [(0, .inr (.inr (x0))), (1, .inl (x1)), (3, .inl (x3))]) [0, 1, 2] rfl ?_
      exact (ih.2.2.2.2.1) x0 x1 x3 (0 : Int32) σ
    · intro x0 x1 x3 s0 σ
      unfold f_X12_end_L120
      refine T_go (S' := (217, [(2, .inl (s0)), (0, .inr (.inr (x0))), (1, .inl (x1)), (3, .inl (x3))], [], hp σ, 0, 0)) 1 rfl ?_
      refine T_loc (ls' := [(0, .inr (.inr (x0))), (1, .inl (x1)), (2, .inl (s0)), (3, .inl (x3))]) [1, 2, 0, 3] rfl ?_
      exact (ih.2.2.2.2.2) x0 x1 s0 x3 σ
    · intro x0 x1 x2 x3 σ
      unfold f_X12_end_L120
      refine T_go (S' := (120, [(3, .inl ((x3 + (1 : Int32)))), (0, .inr (.inr (x0))), (1, .inl (x1)), (2, .inl (x2))], [], hp σ, 0, 0)) 2 rfl ?_
      refine T_loc (ls' := [(0, .inr (.inr (x0))), (1, .inl (x1)), (2, .inl (x2)), (3, .inl ((x3 + (1 : Int32))))]) [1, 2, 3, 0] rfl ?_
      exact (ih.1) x0 x1 x2 (x3 + (1 : Int32)) σ
def f_X12_end_L71 : Nat → (Nat × Int32 × Int32 × Int32 ⊕ (Nat × Int32 × Int32 ⊕ (Nat × Int32 × Int32 ⊕ (Nat × Int32 × Int32 × Int32)))) → eMem → Option (Int32 × eMem)
  | 0, _, _ => none
  | n + 1, .inl (x0, x1, x2, x3), σ =>
    if (16 : Int32) ≤ x3 then
      f_X12_end_L120 1000000 (.inl (x0, x1, x2, (0 : Int32))) σ
    else
      if x2 = (0 : Int32) then
        f_X12_end_L71 n (.inr (.inr (.inl (x0, x1, x3)))) σ
      else
        if (KH x0).1 = 10 then
          if (KH (RH x0 27)).1 = 11 ∧ eix x1 (KH (RH x0 27)).2 = true then
            if (((σ.1 (RH x0 27) x1.toNatClampNeg) >>> (x3 &&& 31)) &&& (1 : Int32)) = (0 : Int32) then
              f_X12_end_L71 n (.inr (.inl (x0, x1, x3))) σ
            else
              if (KH x0).1 = 10 then
                Option.bind (f_X12_stateAt x0 x1 x3 σ) (fun r1 =>
                  Option.bind (f_X12_isOwned r1.1 r1.2) (fun r2 =>
                    if r2.1 = (0 : Int32) then
                      f_X12_end_L71 n (.inr (.inr (.inl (x0, x1, x3)))) r2.2
                    else
                      f_X12_end_L71 n (.inr (.inl (x0, x1, x3))) r2.2
                    )
                  )
              else none
          else none
        else none
  | n + 1, .inr (.inl (x0, x1, x3)), σ =>
    f_X12_end_L71 n (.inr (.inr (.inr ((x0, x1, x3, (1 : Int32)))))) σ
  | n + 1, .inr (.inr (.inl (x0, x1, x3))), σ =>
    f_X12_end_L71 n (.inr (.inr (.inr ((x0, x1, x3, (0 : Int32)))))) σ
  | n + 1, .inr (.inr (.inr ((x0, x1, x3, s0)))), σ =>
    f_X12_end_L71 n (.inl (x0, x1, s0, (x3 + (1 : Int32)))) σ
set_option maxHeartbeats 4000000 in
set_option maxRecDepth 20000 in
theorem s_X12_end_L71 : ∀ (n : Nat), (∀ (x0 : Nat) (x1 : Int32) (x2 : Int32) (x3 : Int32) (σ : eMem), Snd false none 3 m_X12_end (f_X12_end_L71 n (.inl (x0, x1, x2, x3)) σ) (cN iI) (71, [(0, .inr (.inr (x0))), (1, .inl (x1)), (2, .inl (x2)), (3, .inl (x3))], [], hp σ, 0, 0)) ∧ (∀ (x0 : Nat) (x1 : Int32) (x3 : Int32) (σ : eMem), Snd false none 3 m_X12_end (f_X12_end_L71 n (.inr (.inl (x0, x1, x3))) σ) (cN iI) (106, [(0, .inr (.inr (x0))), (1, .inl (x1)), (3, .inl (x3))], [], hp σ, 0, 0)) ∧ (∀ (x0 : Nat) (x1 : Int32) (x3 : Int32) (σ : eMem), Snd false none 3 m_X12_end (f_X12_end_L71 n (.inr (.inr (.inl (x0, x1, x3)))) σ) (cN iI) (110, [(0, .inr (.inr (x0))), (1, .inl (x1)), (3, .inl (x3))], [], hp σ, 0, 0)) ∧ (∀ (x0 : Nat) (x1 : Int32) (x3 : Int32) (s0 : Int32) (σ : eMem), Snd false none 3 m_X12_end (f_X12_end_L71 n (.inr (.inr (.inr ((x0, x1, x3, s0))))) σ) (cN iI) (111, [(0, .inr (.inr (x0))), (1, .inl (x1)), (3, .inl (x3))], [.inl (s0)], hp σ, 0, 0)) := by
  intro n
  induction n with
  | zero => exact ⟨fun _ _ _ _ _ => T_none, fun _ _ _ _ => T_none, fun _ _ _ _ => T_none, fun _ _ _ _ _ => T_none⟩
  | succ n ih =>
    refine ⟨?_, ?_, ?_, ?_⟩
    · intro x0 x1 x2 x3 σ
      unfold f_X12_end_L71
      refine T_go (S' := (74, [(0, .inr (.inr (x0))), (1, .inl (x1)), (2, .inl (x2)), (3, .inl (x3))], [.inl ((16 : Int32)), .inl (x3)], hp σ, 0, 0)) 2 rfl ?_
      refine T_icmp_ge 118 rfl rfl (fun _ => ?_) (fun _ => ?_)
      · refine T_go (S' := (120, [(3, .inl ((0 : Int32))), (0, .inr (.inr (x0))), (1, .inl (x1)), (2, .inl (x2))], [], hp σ, 0, 0)) 2 rfl ?_
        refine T_loc (ls' := [(0, .inr (.inr (x0))), (1, .inl (x1)), (2, .inl (x2)), (3, .inl ((0 : Int32)))]) [1, 2, 3, 0] rfl ?_
        exact (s_X12_end_L120 1000000).1 x0 x1 x2 (0 : Int32) σ
      · refine T_go (S' := (78, [(0, .inr (.inr (x0))), (1, .inl (x1)), (2, .inl (x2)), (3, .inl (x3))], [.inl (x2)], hp σ, 0, 0)) 1 rfl ?_
        refine T_if_eq 110 rfl rfl (fun _ => ?_) (fun _ => ?_)
        · refine T_loc (ls' := [(0, .inr (.inr (x0))), (1, .inl (x1)), (3, .inl (x3))]) [0, 1, 3] rfl ?_
          exact (ih.2.2.1) x0 x1 x3 σ
        · refine T_go (S' := (82, [(0, .inr (.inr (x0))), (1, .inl (x1)), (2, .inl (x2)), (3, .inl (x3))], [.inr (.inr (x0))], hp σ, 0, 0)) 1 rfl ?_
          refine T_getR rfl (fun _ => ?_)
          refine T_go (S' := (86, [(0, .inr (.inr (x0))), (1, .inl (x1)), (2, .inl (x2)), (3, .inl (x3))], [.inl (x1), .inr (.inr ((RH x0 27)))], hp σ, 0, 0)) 1 rfl ?_
          refine T_iald rfl (fun _ => ?_)
          refine T_go (S' := (91, [(0, .inr (.inr (x0))), (1, .inl (x1)), (2, .inl (x2)), (3, .inl (x3))], [.inl ((((σ.1 (RH x0 27) x1.toNatClampNeg) >>> (x3 &&& 31)) &&& (1 : Int32)))], hp σ, 0, 0)) 4 rfl ?_
          refine T_if_eq 106 rfl rfl (fun _ => ?_) (fun _ => ?_)
          · refine T_loc (ls' := [(0, .inr (.inr (x0))), (1, .inl (x1)), (3, .inl (x3))]) [0, 1, 3] rfl ?_
            exact (ih.2.1) x0 x1 x3 σ
          · refine T_go (S' := (97, [(0, .inr (.inr (x0))), (1, .inl (x1)), (2, .inl (x2)), (3, .inl (x3))], [.inl (x3), .inl (x1), .inr (.inr (x0))], hp σ, 0, 0)) 3 rfl ?_
            refine T_cv (i := iI) (as := [.inr (.inr (x0)), .inl (x1), .inl (x3)]) (rest := []) (st := [.inl (x3), .inl (x1), .inr (.inr (x0))]) rfl rfl rfl ⟨lb rfl, lb rfl, lb rfl, lb rfl⟩ (fun _ h => Ew_le (lb rfl) (s_X12_stateAt x0 x1 x3 σ _ h)) (fun _ r1 => ?_)
            show Snd false none _ _ _ (cN iI) (100, [(0, .inr (.inr (x0))), (1, .inl (x1)), (2, .inl (x2)), (3, .inl (x3))], [.inl (r1.1)], hp r1.2, 0, 0)
            refine T_cs (i := iI) (as := [.inl (r1.1)]) (rest := []) (st := [.inl (r1.1)]) rfl (lb rfl) rfl rfl ⟨lb rfl, lb rfl, lb rfl, lb rfl⟩ (fun _ h => Ew_le (lb rfl) (s_X12_isOwned r1.1 r1.2 _ h)) (fun r2 => ?_)
            show Snd false none _ _ _ (cN iI) (103, [(0, .inr (.inr (x0))), (1, .inl (x1)), (2, .inl (x2)), (3, .inl (x3))], [.inl (r2.1)], hp r2.2, 0, 0)
            refine T_if_eq 110 rfl rfl (fun _ => ?_) (fun _ => ?_)
            · refine T_loc (ls' := [(0, .inr (.inr (x0))), (1, .inl (x1)), (3, .inl (x3))]) [0, 1, 3] rfl ?_
              exact (ih.2.2.1) x0 x1 x3 r2.2
            · refine T_loc (ls' := [(0, .inr (.inr (x0))), (1, .inl (x1)), (3, .inl (x3))]) [0, 1, 3] rfl ?_
              exact (ih.2.1) x0 x1 x3 r2.2
    · intro x0 x1 x3 σ
      unfold f_X12_end_L71
      refine T_go (S' := (111, [(0, .inr (.inr (x0))), (1, .inl (x1)), (3, .inl (x3))], [.inl ((1 : Int32))], hp σ, 0, 0)) 2 rfl ?_
      refine T_loc (ls' := [(0, .inr (.inr (x0))), (1, .inl (x1)), (3, .inl (x3))]) [0, 1, 2] rfl ?_
      exact (ih.2.2.2) x0 x1 x3 (1 : Int32) σ
    · intro x0 x1 x3 σ
      unfold f_X12_end_L71
      refine T_go (S' := (111, [(0, .inr (.inr (x0))), (1, .inl (x1)), (3, .inl (x3))], [.inl ((0 : Int32))], hp σ, 0, 0)) 1 rfl ?_
      refine T_loc (ls' := [(0, .inr (.inr (x0))), (1, .inl (x1)), (3, .inl (x3))]) [0, 1, 2] rfl ?_
      exact (ih.2.2.2) x0 x1 x3 (0 : Int32) σ
    · intro x0 x1 x3 s0 σ
      unfold f_X12_end_L71
      refine T_go (S' := (71, [(3, .inl ((x3 + (1 : Int32)))), (2, .inl (s0)), (0, .inr (.inr (x0))), (1, .inl (x1))], [], hp σ, 0, 0)) 3 rfl ?_
      refine T_loc (ls' := [(0, .inr (.inr (x0))), (1, .inl (x1)), (2, .inl (s0)), (3, .inl ((x3 + (1 : Int32))))]) [2, 3, 1, 0] rfl ?_
      exact (ih.1) x0 x1 s0 (x3 + (1 : Int32)) σ
def f_X12_end (x0 : Nat) (x1 : Int32) (σ : eMem) : Option (Int32 × eMem) :=
  Option.bind (f_X12_isCore x1 σ) (fun r1 =>
    if (KH x0).1 = 10 then
      Option.bind (f_X12_asks x0 r1.1 r1.2) (fun r2 =>
        if ¬ r2.1 = (0 : Int32) then
          if (KH x0).1 = 10 then
            if (KH (RH x0 23)).1 = 13 ∧ eix x1 (KH (RH x0 23)).2 = true then
              if ¬ (r2.2.1 (RH x0 23) x1.toNatClampNeg) = (0 : Int32) then
                if (KH x0).1 = 10 then
                  if (KH (RH x0 24)).1 = 13 ∧ eix x1 (KH (RH x0 24)).2 = true then
                    if (r2.2.1 (RH x0 24) x1.toNatClampNeg) = (0 : Int32) then
                      f_X12_end_L71 1000000 (.inl (x0, x1, (1 : Int32), (0 : Int32))) r2.2
                    else
                      if (KH x0).1 = 10 then
                        if (KH (RH x0 23)).1 = 13 ∧ eix x1 (KH (RH x0 23)).2 = true ∧ eB (0 : Int32) = true then eLet ((eup r2.2.1 (RH x0 23) x1.toNatClampNeg (0 : Int32), r2.2.2) : eMem) (fun σ3 =>
                          if (KH x0).1 = 10 then
                            if (KH (RH x0 25)).1 = 11 ∧ eix x1 (KH (RH x0 25)).2 = true then
                              if (KH (RH x0 25)).1 = 11 ∧ eix x1 (KH (RH x0 25)).2 = true then eLet ((eup σ3.1 (RH x0 25) x1.toNatClampNeg ((σ3.1 (RH x0 25) x1.toNatClampNeg) + (1 : Int32)), σ3.2) : eMem) (fun σ4 =>
                                if (KH x0).1 = 10 then
                                  if (KH (RH x0 31)).1 = 11 ∧ eix (8 : Int32) (KH (RH x0 31)).2 = true then
                                    if (KH (RH x0 31)).1 = 11 ∧ eix (8 : Int32) (KH (RH x0 31)).2 = true then eLet ((eup σ4.1 (RH x0 31) (8 : Int32).toNatClampNeg ((σ4.1 (RH x0 31) (8 : Int32).toNatClampNeg) + (1 : Int32)), σ4.2) : eMem) (fun σ5 =>
                                      some ((0 : Int32), σ5)
                                      ) else none
                                  else none
                                else none
                                ) else none
                            else none
                          else none
                          ) else none
                      else none
                  else none
                else none
              else
                if (KH x0).1 = 10 then
                  Option.bind (f_X12_fails x0 (2 : Int32) r2.2) (fun r6 =>
                    some (r6.1, r6.2)
                    )
                else none
            else none
          else none
        else
          some ((0 : Int32), r2.2)
        )
    else none
    )
set_option maxHeartbeats 4000000 in
set_option maxRecDepth 20000 in
theorem s_X12_end (x0 : Nat) (x1 : Int32) (σ : eMem) : ∀ r, f_X12_end x0 x1 σ = some r → Ew false 4 173 [.inr (.inr (x0)), .inl (x1)] (hp σ) (cN iI r) := by
  refine T_meth (md := m_X12_end) (d0 := 3) (cv := (cN iI)) rfl (lb rfl) (lb rfl) ?_
  unfold f_X12_end
  show Snd false none _ _ _ _ (0, [(0, .inr (.inr (x0))), (1, .inl (x1))], [], hp σ, 0, 0)
  refine T_go (S' := (2, [(0, .inr (.inr (x0))), (1, .inl (x1))], [.inl (x1), .inr (.inr (x0))], hp σ, 0, 0)) 2 rfl ?_
  refine T_cs (i := iI) (as := [.inl (x1)]) (rest := [.inr (.inr (x0))]) (st := [.inl (x1), .inr (.inr (x0))]) rfl (lb rfl) rfl rfl ⟨lb rfl, lb rfl, lb rfl, lb rfl⟩ (fun _ h => Ew_le (lb rfl) (s_X12_isCore x1 σ _ h)) (fun r1 => ?_)
  show Snd false none _ _ _ (cN iI) (5, [(0, .inr (.inr (x0))), (1, .inl (x1))], [.inl (r1.1), .inr (.inr (x0))], hp r1.2, 0, 0)
  refine T_cv (i := iI) (as := [.inr (.inr (x0)), .inl (r1.1)]) (rest := []) (st := [.inl (r1.1), .inr (.inr (x0))]) rfl rfl rfl ⟨lb rfl, lb rfl, lb rfl, lb rfl⟩ (fun _ h => Ew_le (lb rfl) (s_X12_asks x0 r1.1 r1.2 _ h)) (fun _ r2 => ?_)
  show Snd false none _ _ _ (cN iI) (8, [(0, .inr (.inr (x0))), (1, .inl (x1))], [.inl (r2.1)], hp r2.2, 0, 0)
  refine T_if_ne 13 rfl rfl (fun _ => ?_) (fun _ => ?_)
  · refine T_go (S' := (14, [(0, .inr (.inr (x0))), (1, .inl (x1))], [.inr (.inr (x0))], hp r2.2, 0, 0)) 1 rfl ?_
    refine T_getR rfl (fun _ => ?_)
    refine T_go (S' := (18, [(0, .inr (.inr (x0))), (1, .inl (x1))], [.inl (x1), .inr (.inr ((RH x0 23)))], hp r2.2, 0, 0)) 1 rfl ?_
    refine T_bald rfl (fun _ => ?_)
    refine T_if_ne 28 rfl rfl (fun _ => ?_) (fun _ => ?_)
    · refine T_go (S' := (29, [(0, .inr (.inr (x0))), (1, .inl (x1))], [.inr (.inr (x0))], hp r2.2, 0, 0)) 1 rfl ?_
      refine T_getR rfl (fun _ => ?_)
      refine T_go (S' := (33, [(0, .inr (.inr (x0))), (1, .inl (x1))], [.inl (x1), .inr (.inr ((RH x0 24)))], hp r2.2, 0, 0)) 1 rfl ?_
      refine T_bald rfl (fun _ => ?_)
      refine T_if_eq 67 rfl rfl (fun _ => ?_) (fun _ => ?_)
      · refine T_go (S' := (71, [(3, .inl ((0 : Int32))), (2, .inl ((1 : Int32))), (0, .inr (.inr (x0))), (1, .inl (x1))], [], hp r2.2, 0, 0)) 4 rfl ?_
        refine T_loc (ls' := [(0, .inr (.inr (x0))), (1, .inl (x1)), (2, .inl ((1 : Int32))), (3, .inl ((0 : Int32)))]) [2, 3, 1, 0] rfl ?_
        exact (s_X12_end_L71 1000000).1 x0 x1 (1 : Int32) (0 : Int32) r2.2
      · refine T_go (S' := (38, [(0, .inr (.inr (x0))), (1, .inl (x1))], [.inr (.inr (x0))], hp r2.2, 0, 0)) 1 rfl ?_
        refine T_getR rfl (fun _ => ?_)
        refine T_go (S' := (43, [(0, .inr (.inr (x0))), (1, .inl (x1))], [.inl ((0 : Int32)), .inl (x1), .inr (.inr ((RH x0 23)))], hp r2.2, 0, 0)) 2 rfl ?_
        refine T_bast rfl (fun _ => ?_)
        refine T_let (Sf := fun σ3 => (44, [(0, .inr (.inr (x0))), (1, .inl (x1))], [], hp σ3, 0, 0)) (fun σ3 => ?_)
        refine T_go (S' := (45, [(0, .inr (.inr (x0))), (1, .inl (x1))], [.inr (.inr (x0))], hp σ3, 0, 0)) 1 rfl ?_
        refine T_getR rfl (fun _ => ?_)
        refine T_go (S' := (50, [(0, .inr (.inr (x0))), (1, .inl (x1))], [.inl (x1), .inr (.inr ((RH x0 25))), .inl (x1), .inr (.inr ((RH x0 25)))], hp σ3, 0, 0)) 2 rfl ?_
        refine T_iald rfl (fun _ => ?_)
        refine T_go (S' := (53, [(0, .inr (.inr (x0))), (1, .inl (x1))], [.inl (((σ3.1 (RH x0 25) x1.toNatClampNeg) + (1 : Int32))), .inl (x1), .inr (.inr ((RH x0 25)))], hp σ3, 0, 0)) 2 rfl ?_
        refine T_iast rfl (fun _ => ?_)
        refine T_let (Sf := fun σ4 => (54, [(0, .inr (.inr (x0))), (1, .inl (x1))], [], hp σ4, 0, 0)) (fun σ4 => ?_)
        refine T_go (S' := (55, [(0, .inr (.inr (x0))), (1, .inl (x1))], [.inr (.inr (x0))], hp σ4, 0, 0)) 1 rfl ?_
        refine T_getR rfl (fun _ => ?_)
        refine T_go (S' := (61, [(0, .inr (.inr (x0))), (1, .inl (x1))], [.inl ((8 : Int32)), .inr (.inr ((RH x0 31))), .inl ((8 : Int32)), .inr (.inr ((RH x0 31)))], hp σ4, 0, 0)) 2 rfl ?_
        refine T_iald rfl (fun _ => ?_)
        refine T_go (S' := (64, [(0, .inr (.inr (x0))), (1, .inl (x1))], [.inl (((σ4.1 (RH x0 31) (8 : Int32).toNatClampNeg) + (1 : Int32))), .inl ((8 : Int32)), .inr (.inr ((RH x0 31)))], hp σ4, 0, 0)) 2 rfl ?_
        refine T_iast rfl (fun _ => ?_)
        refine T_let (Sf := fun σ5 => (65, [(0, .inr (.inr (x0))), (1, .inl (x1))], [], hp σ5, 0, 0)) (fun σ5 => ?_)
        refine T_go (S' := (66, [(0, .inr (.inr (x0))), (1, .inl (x1))], [.inl ((0 : Int32))], hp σ5, 0, 0)) 1 rfl ?_
        exact T_ret rfl
    · refine T_go (S' := (24, [(0, .inr (.inr (x0))), (1, .inl (x1))], [.inl ((2 : Int32)), .inr (.inr (x0))], hp r2.2, 0, 0)) 2 rfl ?_
      refine T_cv (i := iI) (as := [.inr (.inr (x0)), .inl ((2 : Int32))]) (rest := []) (st := [.inl ((2 : Int32)), .inr (.inr (x0))]) rfl rfl rfl ⟨lb rfl, lb rfl, lb rfl, lb rfl⟩ (fun _ h => Ew_le (lb rfl) (s_X12_fails x0 (2 : Int32) r2.2 _ h)) (fun _ r6 => ?_)
      show Snd false none _ _ _ (cN iI) (27, [(0, .inr (.inr (x0))), (1, .inl (x1))], [.inl (r6.1)], hp r6.2, 0, 0)
      exact T_ret rfl
  · refine T_go (S' := (12, [(0, .inr (.inr (x0))), (1, .inl (x1))], [.inl ((0 : Int32))], hp r2.2, 0, 0)) 1 rfl ?_
    exact T_ret rfl
def f_X12_isQueue_43 (s0 : Int32) (σ : eMem) : Option (Int32 × eMem) :=
  if eB s0 = true then some (s0, σ) else none
set_option maxHeartbeats 4000000 in
set_option maxRecDepth 20000 in
theorem s_X12_isQueue_43 (s0 : Int32) (σ : eMem) : Snd false none 0 m_X12_isQueue (f_X12_isQueue_43 s0 σ) (cN iI) (43, [], [.inl (s0)], hp σ, 0, 0) := by
  unfold f_X12_isQueue_43
  exact T_chkr rfl
def f_X12_isQueue_28 (x0 : Nat) (s0 : Nat) (s1 : Int32) (σ : eMem) : Option (Int32 × eMem) :=
  if (KH s0).1 = 10 then eLet ((eup σ.1 s0 32 s1, σ.2) : eMem) (fun σ1 =>
    if (KH x0).1 = 10 then
      if ¬ (σ1.1 x0 32) = (0 : Int32) then
        f_X12_isQueue_43 (0 : Int32) σ1
      else
        f_X12_isQueue_43 (1 : Int32) σ1
    else none
    ) else none
set_option maxHeartbeats 4000000 in
set_option maxRecDepth 20000 in
theorem s_X12_isQueue_28 (x0 : Nat) (s0 : Nat) (s1 : Int32) (σ : eMem) : Snd false none 0 m_X12_isQueue (f_X12_isQueue_28 x0 s0 s1 σ) (cN iI) (28, [(0, .inr (.inr (x0)))], [.inl (s1), .inr (.inr (s0))], hp σ, 0, 0) := by
  unfold f_X12_isQueue_28
  refine T_putI rfl (fun _ => ?_)
  refine T_let (Sf := fun σ1 => (31, [(0, .inr (.inr (x0)))], [], hp σ1, 0, 0)) (fun σ1 => ?_)
  refine T_go (S' := (32, [(0, .inr (.inr (x0)))], [.inr (.inr (x0))], hp σ1, 0, 0)) 1 rfl ?_
  refine T_getI rfl (fun _ => ?_)
  refine T_if_ne 42 rfl rfl (fun _ => ?_) (fun _ => ?_)
  · refine T_go (S' := (43, [(0, .inr (.inr (x0)))], [.inl ((0 : Int32))], hp σ1, 0, 0)) 1 rfl ?_
    refine T_loc (ls' := []) [] rfl ?_
    exact s_X12_isQueue_43 (0 : Int32) σ1
  · refine T_go (S' := (43, [(0, .inr (.inr (x0)))], [.inl ((1 : Int32))], hp σ1, 0, 0)) 2 rfl ?_
    refine T_loc (ls' := []) [] rfl ?_
    exact s_X12_isQueue_43 (1 : Int32) σ1
def f_X12_isQueue_10 (x0 : Nat) (s0 : Nat) (σ : eMem) : Option (Int32 × eMem) :=
  f_X12_isQueue_28 x0 s0 (1 : Int32) σ
set_option maxHeartbeats 4000000 in
set_option maxRecDepth 20000 in
theorem s_X12_isQueue_10 (x0 : Nat) (s0 : Nat) (σ : eMem) : Snd false none 0 m_X12_isQueue (f_X12_isQueue_10 x0 s0 σ) (cN iI) (10, [(0, .inr (.inr (x0)))], [.inr (.inr (s0))], hp σ, 0, 0) := by
  unfold f_X12_isQueue_10
  refine T_go (S' := (28, [(0, .inr (.inr (x0)))], [.inl ((1 : Int32)), .inr (.inr (s0))], hp σ, 0, 0)) 2 rfl ?_
  refine T_loc (ls' := [(0, .inr (.inr (x0)))]) [0] rfl ?_
  exact s_X12_isQueue_28 x0 s0 (1 : Int32) σ
def f_X12_isQueue_23 (x0 : Nat) (s0 : Nat) (σ : eMem) : Option (Int32 × eMem) :=
  f_X12_isQueue_28 x0 s0 (2 : Int32) σ
set_option maxHeartbeats 4000000 in
set_option maxRecDepth 20000 in
theorem s_X12_isQueue_23 (x0 : Nat) (s0 : Nat) (σ : eMem) : Snd false none 0 m_X12_isQueue (f_X12_isQueue_23 x0 s0 σ) (cN iI) (23, [(0, .inr (.inr (x0)))], [.inr (.inr (s0))], hp σ, 0, 0) := by
  unfold f_X12_isQueue_23
  refine T_go (S' := (28, [(0, .inr (.inr (x0)))], [.inl ((2 : Int32)), .inr (.inr (s0))], hp σ, 0, 0)) 2 rfl ?_
  refine T_loc (ls' := [(0, .inr (.inr (x0)))]) [0] rfl ?_
  exact s_X12_isQueue_28 x0 s0 (2 : Int32) σ
def f_X12_isQueue (x0 : Nat) (x1 : Int32) (x2 : Int32) (σ : eMem) : Option (Int32 × eMem) :=
  if x2 < (0 : Int32) then
    f_X12_isQueue_10 x0 x0 σ
  else
    if x2 ≤ (4 : Int32) then
      if x1 < (0 : Int32) then
        f_X12_isQueue_23 x0 x0 σ
      else
        if x1 ≤ (2 : Int32) then
          f_X12_isQueue_28 x0 x0 (0 : Int32) σ
        else
          f_X12_isQueue_23 x0 x0 σ
    else
      f_X12_isQueue_10 x0 x0 σ
set_option maxHeartbeats 4000000 in
set_option maxRecDepth 20000 in
theorem s_X12_isQueue (x0 : Nat) (x1 : Int32) (x2 : Int32) (σ : eMem) : ∀ r, f_X12_isQueue x0 x1 x2 σ = some r → Ew false 1 174 [.inr (.inr (x0)), .inl (x1), .inl (x2)] (hp σ) (cN iI r) := by
  refine T_meth (md := m_X12_isQueue) (d0 := 0) (cv := (cN iI)) rfl (lb rfl) (lb rfl) ?_
  unfold f_X12_isQueue
  show Snd false none _ _ _ _ (0, [(0, .inr (.inr (x0))), (1, .inl (x1)), (2, .inl (x2))], [], hp σ, 0, 0)
  refine T_go (S' := (2, [(0, .inr (.inr (x0))), (1, .inl (x1)), (2, .inl (x2))], [.inl (x2), .inr (.inr (x0))], hp σ, 0, 0)) 2 rfl ?_
  refine T_if_lt 10 rfl rfl (fun _ => ?_) (fun _ => ?_)
  · refine T_loc (ls' := [(0, .inr (.inr (x0)))]) [0] rfl ?_
    exact s_X12_isQueue_10 x0 x0 σ
  · refine T_go (S' := (7, [(0, .inr (.inr (x0))), (1, .inl (x1)), (2, .inl (x2))], [.inl ((4 : Int32)), .inl (x2), .inr (.inr (x0))], hp σ, 0, 0)) 2 rfl ?_
    refine T_icmp_le 14 rfl rfl (fun _ => ?_) (fun _ => ?_)
    · refine T_go (S' := (15, [(0, .inr (.inr (x0))), (1, .inl (x1)), (2, .inl (x2))], [.inl (x1), .inr (.inr (x0))], hp σ, 0, 0)) 1 rfl ?_
      refine T_if_lt 23 rfl rfl (fun _ => ?_) (fun _ => ?_)
      · refine T_loc (ls' := [(0, .inr (.inr (x0)))]) [0] rfl ?_
        exact s_X12_isQueue_23 x0 x0 σ
      · refine T_go (S' := (20, [(0, .inr (.inr (x0))), (1, .inl (x1)), (2, .inl (x2))], [.inl ((2 : Int32)), .inl (x1), .inr (.inr (x0))], hp σ, 0, 0)) 2 rfl ?_
        refine T_icmp_le 27 rfl rfl (fun _ => ?_) (fun _ => ?_)
        · refine T_go (S' := (28, [(0, .inr (.inr (x0))), (1, .inl (x1)), (2, .inl (x2))], [.inl ((0 : Int32)), .inr (.inr (x0))], hp σ, 0, 0)) 1 rfl ?_
          refine T_loc (ls' := [(0, .inr (.inr (x0)))]) [0] rfl ?_
          exact s_X12_isQueue_28 x0 x0 (0 : Int32) σ
        · refine T_loc (ls' := [(0, .inr (.inr (x0)))]) [0] rfl ?_
          exact s_X12_isQueue_23 x0 x0 σ
    · refine T_loc (ls' := [(0, .inr (.inr (x0)))]) [0] rfl ?_
      exact s_X12_isQueue_10 x0 x0 σ
def f_X12_deliver_38 (s0 : Int32) (σ : eMem) : Option (Int32 × eMem) :=
  some (s0, σ)
set_option maxHeartbeats 4000000 in
set_option maxRecDepth 20000 in
theorem s_X12_deliver_38 (s0 : Int32) (σ : eMem) : Snd false none 7 m_X12_deliver (f_X12_deliver_38 s0 σ) (cN iI) (38, [], [.inl (s0)], hp σ, 0, 0) := by
  unfold f_X12_deliver_38
  exact T_ret rfl
def f_X12_deliver (x0 : Nat) (x1 : Int32) (x2 : Int32) (σ : eMem) : Option (Int32 × eMem) :=
  if (KH x0).1 = 10 then
    Option.bind (f_X12_isQueue x0 x1 x2 σ) (fun r1 =>
      if ¬ r1.1 = (0 : Int32) then
        if (KH x0).1 = 10 then
          if (KH (RH x0 10)).1 = 11 ∧ eix (((5 : Int32) * x1) + x2) (KH (RH x0 10)).2 = true then
            if ¬ (r1.2.1 (RH x0 10) (((5 : Int32) * x1) + x2).toNatClampNeg) = (0 : Int32) then
              if (KH x0).1 = 10 then
                Option.bind (f_X12_delivers x0 x1 x2 r1.2) (fun r2 =>
                  f_X12_deliver_38 r2.1 r2.2
                  )
              else none
            else
              if (KH x0).1 = 10 then
                Option.bind (f_X12_fails x0 (3 : Int32) r1.2) (fun r3 =>
                  f_X12_deliver_38 r3.1 r3.2
                  )
              else none
          else none
        else none
      else
        some ((0 : Int32), r1.2)
      )
  else none
set_option maxHeartbeats 4000000 in
set_option maxRecDepth 20000 in
theorem s_X12_deliver (x0 : Nat) (x1 : Int32) (x2 : Int32) (σ : eMem) : ∀ r, f_X12_deliver x0 x1 x2 σ = some r → Ew false 8 175 [.inr (.inr (x0)), .inl (x1), .inl (x2)] (hp σ) (cN iI r) := by
  refine T_meth (md := m_X12_deliver) (d0 := 7) (cv := (cN iI)) rfl (lb rfl) (lb rfl) ?_
  unfold f_X12_deliver
  show Snd false none _ _ _ _ (0, [(0, .inr (.inr (x0))), (1, .inl (x1)), (2, .inl (x2))], [], hp σ, 0, 0)
  refine T_go (S' := (3, [(0, .inr (.inr (x0))), (1, .inl (x1)), (2, .inl (x2))], [.inl (x2), .inl (x1), .inr (.inr (x0))], hp σ, 0, 0)) 3 rfl ?_
  refine T_cv (i := iI) (as := [.inr (.inr (x0)), .inl (x1), .inl (x2)]) (rest := []) (st := [.inl (x2), .inl (x1), .inr (.inr (x0))]) rfl rfl rfl ⟨lb rfl, lb rfl, lb rfl, lb rfl⟩ (fun _ h => Ew_le (lb rfl) (s_X12_isQueue x0 x1 x2 σ _ h)) (fun _ r1 => ?_)
  show Snd false none _ _ _ (cN iI) (6, [(0, .inr (.inr (x0))), (1, .inl (x1)), (2, .inl (x2))], [.inl (r1.1)], hp r1.2, 0, 0)
  refine T_if_ne 11 rfl rfl (fun _ => ?_) (fun _ => ?_)
  · refine T_go (S' := (12, [(0, .inr (.inr (x0))), (1, .inl (x1)), (2, .inl (x2))], [.inr (.inr (x0))], hp r1.2, 0, 0)) 1 rfl ?_
    refine T_getR rfl (fun _ => ?_)
    refine T_go (S' := (20, [(0, .inr (.inr (x0))), (1, .inl (x1)), (2, .inl (x2))], [.inl ((((5 : Int32) * x1) + x2)), .inr (.inr ((RH x0 10)))], hp r1.2, 0, 0)) 5 rfl ?_
    refine T_iald rfl (fun _ => ?_)
    refine T_if_ne 32 rfl rfl (fun _ => ?_) (fun _ => ?_)
    · refine T_go (S' := (35, [(0, .inr (.inr (x0))), (1, .inl (x1)), (2, .inl (x2))], [.inl (x2), .inl (x1), .inr (.inr (x0))], hp r1.2, 0, 0)) 3 rfl ?_
      refine T_cv (i := iI) (as := [.inr (.inr (x0)), .inl (x1), .inl (x2)]) (rest := []) (st := [.inl (x2), .inl (x1), .inr (.inr (x0))]) rfl rfl rfl ⟨lb rfl, lb rfl, lb rfl, lb rfl⟩ (fun _ h => Ew_le (lb rfl) (s_X12_delivers x0 x1 x2 r1.2 _ h)) (fun _ r2 => ?_)
      show Snd false none _ _ _ (cN iI) (38, [(0, .inr (.inr (x0))), (1, .inl (x1)), (2, .inl (x2))], [.inl (r2.1)], hp r2.2, 0, 0)
      refine T_loc (ls' := []) [] rfl ?_
      exact s_X12_deliver_38 r2.1 r2.2
    · refine T_go (S' := (26, [(0, .inr (.inr (x0))), (1, .inl (x1)), (2, .inl (x2))], [.inl ((3 : Int32)), .inr (.inr (x0))], hp r1.2, 0, 0)) 2 rfl ?_
      refine T_cv (i := iI) (as := [.inr (.inr (x0)), .inl ((3 : Int32))]) (rest := []) (st := [.inl ((3 : Int32)), .inr (.inr (x0))]) rfl rfl rfl ⟨lb rfl, lb rfl, lb rfl, lb rfl⟩ (fun _ h => Ew_le (lb rfl) (s_X12_fails x0 (3 : Int32) r1.2 _ h)) (fun _ r3 => ?_)
      show Snd false none _ _ _ (cN iI) (29, [(0, .inr (.inr (x0))), (1, .inl (x1)), (2, .inl (x2))], [.inl (r3.1)], hp r3.2, 0, 0)
      refine T_go (S' := (38, [(0, .inr (.inr (x0))), (1, .inl (x1)), (2, .inl (x2))], [.inl (r3.1)], hp r3.2, 0, 0)) 1 rfl ?_
      refine T_loc (ls' := []) [] rfl ?_
      exact s_X12_deliver_38 r3.1 r3.2
  · refine T_go (S' := (10, [(0, .inr (.inr (x0))), (1, .inl (x1)), (2, .inl (x2))], [.inl ((0 : Int32))], hp r1.2, 0, 0)) 1 rfl ?_
    exact T_ret rfl
