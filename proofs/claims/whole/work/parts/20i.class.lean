/-! what the methods do -/
def f_X11_outcomes (x0 : Nat) (x1 : Int32) (σ : eMem) : Option ((Nat ⊕ Int32) × eMem) :=
  eThen (f_X11_needWithin x1 (0 : Int32) (1 : Int32) σ) (fun v1 σ2 =>
    if (KH x0).1 = 9 then
      Option.bind (f_X11_outcomesBy x0 x1 σ2) (fun r3 =>
        if (KH r3.1).1 = 5 then
          some (.inr (r3.2.1 r3.1 1), r3.2)
        else none
        )
    else none
    )
set_option maxHeartbeats 4000000 in
set_option maxRecDepth 20000 in
theorem s_X11_outcomes (x0 : Nat) (x1 : Int32) (σ : eMem) : ∀ r, f_X11_outcomes x0 x1 σ = some r → Ew false 22 119 [.inr (.inr (x0)), .inl (x1)] (hp σ) (cX iI r) := by
  refine T_meth (md := m_X11_outcomes) (d0 := 21) (cv := (cX iI)) rfl (lb rfl) (lb rfl) ?_
  unfold f_X11_outcomes
  show Snd false none _ _ _ _ (0, [(0, .inr (.inr (x0))), (1, .inl (x1))], [], hp σ, 0, 0)
  refine T_go (S' := (3, [(0, .inr (.inr (x0))), (1, .inl (x1))], [.inl ((1 : Int32)), .inl ((0 : Int32)), .inl (x1)], hp σ, 0, 0)) 3 rfl ?_
  refine T_csx (i := iU) (as := [.inl (x1), .inl ((0 : Int32)), .inl ((1 : Int32))]) (rest := []) (st := [.inl ((1 : Int32)), .inl ((0 : Int32)), .inl (x1)]) rfl rfl (lb rfl) rfl rfl ⟨lb rfl, lb rfl, lb rfl, lb rfl⟩ (fun _ h => Ew_le (lb rfl) (s_X11_needWithin x1 (0 : Int32) (1 : Int32) σ _ h)) (fun v1 σ2 => ?_)
  show Snd false none _ _ _ (cX iI) (6, [(0, .inr (.inr (x0))), (1, .inl (x1))], [], hp σ2, 1, 6)
  refine T_go (S' := (8, [(0, .inr (.inr (x0))), (1, .inl (x1))], [.inl (x1), .inr (.inr (x0))], hp σ2, 1, 6)) 2 rfl ?_
  refine T_cv (i := iR) (as := [.inr (.inr (x0)), .inl (x1)]) (rest := []) (st := [.inl (x1), .inr (.inr (x0))]) rfl rfl rfl ⟨lb rfl, lb rfl, lb rfl, lb rfl⟩ (fun _ h => Ew_le (lb rfl) (s_X11_outcomesBy x0 x1 σ2 _ h)) (fun _ r3 => ?_)
  show Snd false none _ _ _ (cX iI) (11, [(0, .inr (.inr (x0))), (1, .inl (x1))], [.inr (.inr (r3.1))], hp r3.2, 1, 6)
  refine T_getI rfl (fun _ => ?_)
  exact T_ret rfl
def f_X11_outcome (x0 : Nat) (x1 : Int32) (x2 : Int32) (σ : eMem) : Option ((Nat ⊕ Int32) × eMem) :=
  eThen (f_X11_needWithin x1 (0 : Int32) (1 : Int32) σ) (fun v1 σ2 =>
    if (KH x0).1 = 9 then
      Option.bind (f_X11_outcomesBy x0 x1 σ2) (fun r3 =>
        if (KH r3.1).1 = 5 then
          eThen (f_X11_needIndex x2 (r3.2.1 r3.1 1) r3.2) (fun v4 σ5 =>
            if (KH r3.1).1 = 5 then
              if (KH (RH r3.1 0)).1 = 11 ∧ eix x2 (KH (RH r3.1 0)).2 = true then
                some (.inr (σ5.1 (RH r3.1 0) x2.toNatClampNeg), σ5)
              else none
            else none
            )
        else none
        )
    else none
    )
set_option maxHeartbeats 4000000 in
set_option maxRecDepth 20000 in
theorem s_X11_outcome (x0 : Nat) (x1 : Int32) (x2 : Int32) (σ : eMem) : ∀ r, f_X11_outcome x0 x1 x2 σ = some r → Ew false 22 120 [.inr (.inr (x0)), .inl (x1), .inl (x2)] (hp σ) (cX iI r) := by
  refine T_meth (md := m_X11_outcome) (d0 := 21) (cv := (cX iI)) rfl (lb rfl) (lb rfl) ?_
  unfold f_X11_outcome
  show Snd false none _ _ _ _ (0, [(0, .inr (.inr (x0))), (1, .inl (x1)), (2, .inl (x2))], [], hp σ, 0, 0)
  refine T_go (S' := (3, [(0, .inr (.inr (x0))), (1, .inl (x1)), (2, .inl (x2))], [.inl ((1 : Int32)), .inl ((0 : Int32)), .inl (x1)], hp σ, 0, 0)) 3 rfl ?_
  refine T_csx (i := iU) (as := [.inl (x1), .inl ((0 : Int32)), .inl ((1 : Int32))]) (rest := []) (st := [.inl ((1 : Int32)), .inl ((0 : Int32)), .inl (x1)]) rfl rfl (lb rfl) rfl rfl ⟨lb rfl, lb rfl, lb rfl, lb rfl⟩ (fun _ h => Ew_le (lb rfl) (s_X11_needWithin x1 (0 : Int32) (1 : Int32) σ _ h)) (fun v1 σ2 => ?_)
  show Snd false none _ _ _ (cX iI) (6, [(0, .inr (.inr (x0))), (1, .inl (x1)), (2, .inl (x2))], [], hp σ2, 1, 6)
  refine T_go (S' := (8, [(0, .inr (.inr (x0))), (1, .inl (x1)), (2, .inl (x2))], [.inl (x1), .inr (.inr (x0))], hp σ2, 1, 6)) 2 rfl ?_
  refine T_cv (i := iR) (as := [.inr (.inr (x0)), .inl (x1)]) (rest := []) (st := [.inl (x1), .inr (.inr (x0))]) rfl rfl rfl ⟨lb rfl, lb rfl, lb rfl, lb rfl⟩ (fun _ h => Ew_le (lb rfl) (s_X11_outcomesBy x0 x1 σ2 _ h)) (fun _ r3 => ?_)
  show Snd false none _ _ _ (cX iI) (11, [(0, .inr (.inr (x0))), (1, .inl (x1)), (2, .inl (x2))], [.inr (.inr (r3.1))], hp r3.2, 1, 6)
  refine T_go (S' := (14, [(3, .inr (.inr (r3.1))), (0, .inr (.inr (x0))), (1, .inl (x1)), (2, .inl (x2))], [.inr (.inr (r3.1)), .inl (x2)], hp r3.2, 1, 6)) 3 rfl ?_
  refine T_getI rfl (fun _ => ?_)
  refine T_csx (i := iU) (as := [.inl (x2), .inl ((r3.2.1 r3.1 1))]) (rest := []) (st := [.inl ((r3.2.1 r3.1 1)), .inl (x2)]) rfl rfl (lb rfl) rfl rfl ⟨lb rfl, lb rfl, lb rfl, lb rfl⟩ (fun _ h => Ew_le (lb rfl) (s_X11_needIndex x2 (r3.2.1 r3.1 1) r3.2 _ h)) (fun v4 σ5 => ?_)
  show Snd false none _ _ _ (cX iI) (20, [(3, .inr (.inr (r3.1))), (0, .inr (.inr (x0))), (1, .inl (x1)), (2, .inl (x2))], [], hp σ5, 2, 12)
  refine T_go (S' := (21, [(3, .inr (.inr (r3.1))), (0, .inr (.inr (x0))), (1, .inl (x1)), (2, .inl (x2))], [.inr (.inr (r3.1))], hp σ5, 2, 12)) 1 rfl ?_
  refine T_getR rfl (fun _ => ?_)
  refine T_go (S' := (25, [(3, .inr (.inr (r3.1))), (0, .inr (.inr (x0))), (1, .inl (x1)), (2, .inl (x2))], [.inl (x2), .inr (.inr ((RH r3.1 0)))], hp σ5, 2, 12)) 1 rfl ?_
  refine T_iald rfl (fun _ => ?_)
  exact T_ret rfl
def f_X11_outcomesAnew (x0 : Nat) (x1 : Int32) (σ : eMem) : Option ((Nat ⊕ Int32) × eMem) :=
  eThen (f_X11_needWithin x1 (0 : Int32) (1 : Int32) σ) (fun v1 σ2 =>
    if (KH x0).1 = 9 then
      if (KH x0).1 = 9 then
        if (KH (RH x0 7)).1 = 4 then
          Option.bind (f_X5_countOutcomes (RH x0 7) (RH x0 4) x1 σ2) (fun r3 =>
            some (.inr r3.1, r3.2)
            )
        else none
      else none
    else none
    )
set_option maxHeartbeats 4000000 in
set_option maxRecDepth 20000 in
theorem s_X11_outcomesAnew (x0 : Nat) (x1 : Int32) (σ : eMem) : ∀ r, f_X11_outcomesAnew x0 x1 σ = some r → Ew false 4 121 [.inr (.inr (x0)), .inl (x1)] (hp σ) (cX iI r) := by
  refine T_meth (md := m_X11_outcomesAnew) (d0 := 3) (cv := (cX iI)) rfl (lb rfl) (lb rfl) ?_
  unfold f_X11_outcomesAnew
  show Snd false none _ _ _ _ (0, [(0, .inr (.inr (x0))), (1, .inl (x1))], [], hp σ, 0, 0)
  refine T_go (S' := (3, [(0, .inr (.inr (x0))), (1, .inl (x1))], [.inl ((1 : Int32)), .inl ((0 : Int32)), .inl (x1)], hp σ, 0, 0)) 3 rfl ?_
  refine T_csx (i := iU) (as := [.inl (x1), .inl ((0 : Int32)), .inl ((1 : Int32))]) (rest := []) (st := [.inl ((1 : Int32)), .inl ((0 : Int32)), .inl (x1)]) rfl rfl (lb rfl) rfl rfl ⟨lb rfl, lb rfl, lb rfl, lb rfl⟩ (fun _ h => Ew_le (lb rfl) (s_X11_needWithin x1 (0 : Int32) (1 : Int32) σ _ h)) (fun v1 σ2 => ?_)
  show Snd false none _ _ _ (cX iI) (6, [(0, .inr (.inr (x0))), (1, .inl (x1))], [], hp σ2, 1, 6)
  refine T_go (S' := (7, [(0, .inr (.inr (x0))), (1, .inl (x1))], [.inr (.inr (x0))], hp σ2, 1, 6)) 1 rfl ?_
  refine T_getR rfl (fun _ => ?_)
  refine T_go (S' := (11, [(0, .inr (.inr (x0))), (1, .inl (x1))], [.inr (.inr (x0)), .inr (.inr ((RH x0 7)))], hp σ2, 1, 6)) 1 rfl ?_
  refine T_getR rfl (fun _ => ?_)
  refine T_go (S' := (15, [(0, .inr (.inr (x0))), (1, .inl (x1))], [.inl (x1), .inr (.inr ((RH x0 4))), .inr (.inr ((RH x0 7)))], hp σ2, 1, 6)) 1 rfl ?_
  refine T_cv (i := iI) (as := [.inr (.inr ((RH x0 7))), .inr (.inr ((RH x0 4))), .inl (x1)]) (rest := []) (st := [.inl (x1), .inr (.inr ((RH x0 4))), .inr (.inr ((RH x0 7)))]) rfl rfl rfl ⟨lb rfl, lb rfl, lb rfl, lb rfl⟩ (fun _ h => Ew_le (lb rfl) (s_X5_countOutcomes (RH x0 7) (RH x0 4) x1 σ2 _ h)) (fun _ r3 => ?_)
  show Snd false none _ _ _ (cX iI) (18, [(0, .inr (.inr (x0))), (1, .inl (x1))], [.inl (r3.1)], hp r3.2, 1, 6)
  exact T_ret rfl
def f_X11_areAlike (x0 : Nat) (σ : eMem) : Option (Int32 × eMem) :=
  if (KH x0).1 = 9 then
    Option.bind (f_X11_outcomesBy x0 (0 : Int32) σ) (fun r1 =>
      if (KH x0).1 = 9 then
        Option.bind (f_X11_outcomesBy x0 (1 : Int32) r1.2) (fun r2 =>
          if (KH r1.1).1 = 5 then
            Option.bind (f_X6_isSameAs r1.1 r2.1 r2.2) (fun r3 =>
              if eB r3.1 = true then some (r3.1, r3.2) else none
              )
          else none
          )
      else none
      )
  else none
set_option maxHeartbeats 4000000 in
set_option maxRecDepth 20000 in
theorem s_X11_areAlike (x0 : Nat) (σ : eMem) : ∀ r, f_X11_areAlike x0 σ = some r → Ew false 22 122 [.inr (.inr (x0))] (hp σ) (cN iI r) := by
  refine T_meth (md := m_X11_areAlike) (d0 := 21) (cv := (cN iI)) rfl (lb rfl) (lb rfl) ?_
  unfold f_X11_areAlike
  show Snd false none _ _ _ _ (0, [(0, .inr (.inr (x0)))], [], hp σ, 0, 0)
  refine T_go (S' := (2, [(0, .inr (.inr (x0)))], [.inl ((0 : Int32)), .inr (.inr (x0))], hp σ, 0, 0)) 2 rfl ?_
  refine T_cv (i := iR) (as := [.inr (.inr (x0)), .inl ((0 : Int32))]) (rest := []) (st := [.inl ((0 : Int32)), .inr (.inr (x0))]) rfl rfl rfl ⟨lb rfl, lb rfl, lb rfl, lb rfl⟩ (fun _ h => Ew_le (lb rfl) (s_X11_outcomesBy x0 (0 : Int32) σ _ h)) (fun _ r1 => ?_)
  show Snd false none _ _ _ (cN iI) (5, [(0, .inr (.inr (x0)))], [.inr (.inr (r1.1))], hp r1.2, 0, 0)
  refine T_go (S' := (7, [(0, .inr (.inr (x0)))], [.inl ((1 : Int32)), .inr (.inr (x0)), .inr (.inr (r1.1))], hp r1.2, 0, 0)) 2 rfl ?_
  refine T_cv (i := iR) (as := [.inr (.inr (x0)), .inl ((1 : Int32))]) (rest := [.inr (.inr (r1.1))]) (st := [.inl ((1 : Int32)), .inr (.inr (x0)), .inr (.inr (r1.1))]) rfl rfl rfl ⟨lb rfl, lb rfl, lb rfl, lb rfl⟩ (fun _ h => Ew_le (lb rfl) (s_X11_outcomesBy x0 (1 : Int32) r1.2 _ h)) (fun _ r2 => ?_)
  show Snd false none _ _ _ (cN iI) (10, [(0, .inr (.inr (x0)))], [.inr (.inr (r2.1)), .inr (.inr (r1.1))], hp r2.2, 0, 0)
  refine T_cv (i := iI) (as := [.inr (.inr (r1.1)), .inr (.inr (r2.1))]) (rest := []) (st := [.inr (.inr (r2.1)), .inr (.inr (r1.1))]) rfl rfl rfl ⟨lb rfl, lb rfl, lb rfl, lb rfl⟩ (fun _ h => Ew_le (lb rfl) (s_X6_isSameAs r1.1 r2.1 r2.2 _ h)) (fun _ r3 => ?_)
  show Snd false none _ _ _ (cN iI) (13, [(0, .inr (.inr (x0)))], [.inl (r3.1)], hp r3.2, 0, 0)
  exact T_chkr rfl
