/-! what the methods do -/
def f_X11_pump_L11 : Nat → (Nat × Int32 × Int32 × Int32 ⊕ (Nat × Int32 × Int32 × Int32 × Int32 ⊕ (Nat × Int32 × Int32 × Int32 × Int32 × Int32 ⊕ (Nat × Int32 × Int32 × Int32 × Int32 × Int32)))) → eMem → Option ((Nat ⊕ Int32) × eMem)
  | 0, _, _ => none
  | n + 1, .inl (x0, x1, x2, x3), σ =>
    if x1 ≤ x3 then
      some (.inr x2, σ)
    else
      f_X11_pump_L11 n (.inr (.inl (x0, x1, x2, x3, (2 : Int32)))) σ
  | n + 1, .inr (.inl (x0, x1, x2, x3, x4)), σ =>
    if x4 < (0 : Int32) then
      f_X11_pump_L11 n (.inl (x0, x1, x2, (x3 + (1 : Int32)))) σ
    else
      f_X11_pump_L11 n (.inr (.inr (.inl (x0, x1, x2, x3, x4, (0 : Int32))))) σ
  | n + 1, .inr (.inr (.inl (x0, x1, x2, x3, x4, x5))), σ =>
    if (5 : Int32) ≤ x5 then
      f_X11_pump_L11 n (.inr (.inl (x0, x1, x2, x3, (x4 + (-1 : Int32))))) σ
    else
      if (KH x0).1 = 9 then
        if (KH (RH x0 1)).1 = 3 then
          Option.bind (f_X3_size (RH x0 1) x4 x5 σ) (fun r1 =>
            if r1.1 ≤ (0 : Int32) then
              f_X11_pump_L11 n (.inr (.inr (.inr ((x0, x1, x2, x3, x4, x5))))) r1.2
            else
              if (KH x0).1 = 9 then
                Option.bind (f_X11_deliverFirst x0 x4 x5 r1.2) (fun r2 =>
                  f_X11_pump_L11 n (.inr (.inr (.inr ((x0, x1, (x2 + (1 : Int32)), x3, x4, x5))))) r2.2
                  )
              else none
            )
        else none
      else none
  | n + 1, .inr (.inr (.inr ((x0, x1, x2, x3, x4, x5)))), σ =>
    f_X11_pump_L11 n (.inr (.inr (.inl (x0, x1, x2, x3, x4, (x5 + (1 : Int32)))))) σ
set_option maxHeartbeats 4000000 in
set_option maxRecDepth 20000 in
theorem s_X11_pump_L11 : ∀ (n : Nat), (∀ (x0 : Nat) (x1 : Int32) (x2 : Int32) (x3 : Int32) (σ : eMem), Snd false none 6 m_X11_pump (f_X11_pump_L11 n (.inl (x0, x1, x2, x3)) σ) (cX iI) (11, [(0, .inr (.inr (x0))), (1, .inl (x1)), (2, .inl (x2)), (3, .inl (x3))], [], hp σ, 1, 6)) ∧ (∀ (x0 : Nat) (x1 : Int32) (x2 : Int32) (x3 : Int32) (x4 : Int32) (σ : eMem), Snd false none 6 m_X11_pump (f_X11_pump_L11 n (.inr (.inl (x0, x1, x2, x3, x4))) σ) (cX iI) (19, [(0, .inr (.inr (x0))), (1, .inl (x1)), (2, .inl (x2)), (3, .inl (x3)), (4, .inl (x4))], [], hp σ, 1, 6)) ∧ (∀ (x0 : Nat) (x1 : Int32) (x2 : Int32) (x3 : Int32) (x4 : Int32) (x5 : Int32) (σ : eMem), Snd false none 6 m_X11_pump (f_X11_pump_L11 n (.inr (.inr (.inl (x0, x1, x2, x3, x4, x5)))) σ) (cX iI) (27, [(0, .inr (.inr (x0))), (1, .inl (x1)), (2, .inl (x2)), (3, .inl (x3)), (4, .inl (x4)), (5, .inl (x5))], [], hp σ, 1, 6)) ∧ (∀ (x0 : Nat) (x1 : Int32) (x2 : Int32) (x3 : Int32) (x4 : Int32) (x5 : Int32) (σ : eMem), Snd false none 6 m_X11_pump (f_X11_pump_L11 n (.inr (.inr (.inr ((x0, x1, x2, x3, x4, x5))))) σ) (cX iI) (59, [(0, .inr (.inr (x0))), (1, .inl (x1)), (2, .inl (x2)), (3, .inl (x3)), (4, .inl (x4)), (5, .inl (x5))], [], hp σ, 1, 6)) := by
  intro n
  induction n with
  | zero => exact ⟨fun _ _ _ _ _ => T_none, fun _ _ _ _ _ _ => T_none, fun _ _ _ _ _ _ _ => T_none, fun _ _ _ _ _ _ _ => T_none⟩
  | succ n ih =>
    refine ⟨?_, ?_, ?_, ?_⟩
    · intro x0 x1 x2 x3 σ
      unfold f_X11_pump_L11
      refine T_go (S' := (13, [(0, .inr (.inr (x0))), (1, .inl (x1)), (2, .inl (x2)), (3, .inl (x3))], [.inl (x1), .inl (x3)], hp σ, 1, 6)) 2 rfl ?_
      refine T_icmp_ge 77 rfl rfl (fun _ => ?_) (fun _ => ?_)
      · refine T_go (S' := (78, [(0, .inr (.inr (x0))), (1, .inl (x1)), (2, .inl (x2)), (3, .inl (x3))], [.inl (x2)], hp σ, 1, 6)) 1 rfl ?_
        exact T_ret rfl
      · refine T_go (S' := (19, [(4, .inl ((2 : Int32))), (0, .inr (.inr (x0))), (1, .inl (x1)), (2, .inl (x2)), (3, .inl (x3))], [], hp σ, 1, 6)) 2 rfl ?_
        refine T_loc (ls' := [(0, .inr (.inr (x0))), (1, .inl (x1)), (2, .inl (x2)), (3, .inl (x3)), (4, .inl ((2 : Int32)))]) [1, 2, 3, 4, 0] rfl ?_
        exact (ih.2.1) x0 x1 x2 x3 (2 : Int32) σ
    · intro x0 x1 x2 x3 x4 σ
      unfold f_X11_pump_L11
      refine T_go (S' := (21, [(0, .inr (.inr (x0))), (1, .inl (x1)), (2, .inl (x2)), (3, .inl (x3)), (4, .inl (x4))], [.inl (x4)], hp σ, 1, 6)) 1 rfl ?_
      refine T_if_lt 71 rfl rfl (fun _ => ?_) (fun _ => ?_)
      · refine T_go (S' := (11, [(3, .inl ((x3 + (1 : Int32)))), (0, .inr (.inr (x0))), (1, .inl (x1)), (2, .inl (x2)), (4, .inl (x4))], [], hp σ, 1, 6)) 2 rfl ?_
        refine T_loc (ls' := [(0, .inr (.inr (x0))), (1, .inl (x1)), (2, .inl (x2)), (3, .inl ((x3 + (1 : Int32))))]) [1, 2, 3, 0] rfl ?_
        exact (ih.1) x0 x1 x2 (x3 + (1 : Int32)) σ
      · refine T_go (S' := (27, [(5, .inl ((0 : Int32))), (0, .inr (.inr (x0))), (1, .inl (x1)), (2, .inl (x2)), (3, .inl (x3)), (4, .inl (x4))], [], hp σ, 1, 6)) 2 rfl ?_
        refine T_loc (ls' := [(0, .inr (.inr (x0))), (1, .inl (x1)), (2, .inl (x2)), (3, .inl (x3)), (4, .inl (x4)), (5, .inl ((0 : Int32)))]) [1, 2, 3, 4, 5, 0] rfl ?_
        exact (ih.2.2.1) x0 x1 x2 x3 x4 (0 : Int32) σ
    · intro x0 x1 x2 x3 x4 x5 σ
      unfold f_X11_pump_L11
      refine T_go (S' := (30, [(0, .inr (.inr (x0))), (1, .inl (x1)), (2, .inl (x2)), (3, .inl (x3)), (4, .inl (x4)), (5, .inl (x5))], [.inl ((5 : Int32)), .inl (x5)], hp σ, 1, 6)) 2 rfl ?_
      refine T_icmp_ge 65 rfl rfl (fun _ => ?_) (fun _ => ?_)
      · refine T_go (S' := (19, [(4, .inl ((x4 + (-1 : Int32)))), (0, .inr (.inr (x0))), (1, .inl (x1)), (2, .inl (x2)), (3, .inl (x3)), (5, .inl (x5))], [], hp σ, 1, 6)) 2 rfl ?_
        refine T_loc (ls' := [(0, .inr (.inr (x0))), (1, .inl (x1)), (2, .inl (x2)), (3, .inl (x3)), (4, .inl ((x4 + (-1 : Int32))))]) [1, 2, 3, 4, 0] rfl ?_
        exact (ih.2.1) x0 x1 x2 x3 (x4 + (-1 : Int32)) σ
      · refine T_go (S' := (34, [(0, .inr (.inr (x0))), (1, .inl (x1)), (2, .inl (x2)), (3, .inl (x3)), (4, .inl (x4)), (5, .inl (x5))], [.inr (.inr (x0))], hp σ, 1, 6)) 1 rfl ?_
        refine T_getR rfl (fun _ => ?_)
        refine T_go (S' := (41, [(0, .inr (.inr (x0))), (1, .inl (x1)), (2, .inl (x2)), (3, .inl (x3)), (4, .inl (x4)), (5, .inl (x5))], [.inl (x5), .inl (x4), .inr (.inr ((RH x0 1)))], hp σ, 1, 6)) 2 rfl ?_
        refine T_cv (i := iI) (as := [.inr (.inr ((RH x0 1))), .inl (x4), .inl (x5)]) (rest := []) (st := [.inl (x5), .inl (x4), .inr (.inr ((RH x0 1)))]) rfl rfl rfl ⟨lb rfl, lb rfl, lb rfl, lb rfl⟩ (fun _ h => Ew_le (lb rfl) (s_X3_size (RH x0 1) x4 x5 σ _ h)) (fun _ r1 => ?_)
        show Snd false none _ _ _ (cX iI) (44, [(0, .inr (.inr (x0))), (1, .inl (x1)), (2, .inl (x2)), (3, .inl (x3)), (4, .inl (x4)), (5, .inl (x5))], [.inl (r1.1)], hp r1.2, 1, 6)
        refine T_if_le 59 rfl rfl (fun _ => ?_) (fun _ => ?_)
        · refine T_loc (ls' := [(0, .inr (.inr (x0))), (1, .inl (x1)), (2, .inl (x2)), (3, .inl (x3)), (4, .inl (x4)), (5, .inl (x5))]) [0, 1, 2, 3, 4, 5] rfl ?_
          exact (ih.2.2.2) x0 x1 x2 x3 x4 x5 r1.2
        · refine T_go (S' := (52, [(0, .inr (.inr (x0))), (1, .inl (x1)), (2, .inl (x2)), (3, .inl (x3)), (4, .inl (x4)), (5, .inl (x5))], [.inl (x5), .inl (x4), .inr (.inr (x0))], hp r1.2, 1, 6)) 3 rfl ?_
          refine T_cv (i := iI) (as := [.inr (.inr (x0)), .inl (x4), .inl (x5)]) (rest := []) (st := [.inl (x5), .inl (x4), .inr (.inr (x0))]) rfl rfl rfl ⟨lb rfl, lb rfl, lb rfl, lb rfl⟩ (fun _ h => Ew_le (lb rfl) (s_X11_deliverFirst x0 x4 x5 r1.2 _ h)) (fun _ r2 => ?_)
          show Snd false none _ _ _ (cX iI) (55, [(0, .inr (.inr (x0))), (1, .inl (x1)), (2, .inl (x2)), (3, .inl (x3)), (4, .inl (x4)), (5, .inl (x5))], [.inl (r2.1)], hp r2.2, 1, 6)
          refine T_go (S' := (59, [(2, .inl ((x2 + (1 : Int32)))), (0, .inr (.inr (x0))), (1, .inl (x1)), (3, .inl (x3)), (4, .inl (x4)), (5, .inl (x5))], [], hp r2.2, 1, 6)) 2 rfl ?_
          refine T_loc (ls' := [(0, .inr (.inr (x0))), (1, .inl (x1)), (2, .inl ((x2 + (1 : Int32)))), (3, .inl (x3)), (4, .inl (x4)), (5, .inl (x5))]) [1, 2, 0, 3, 4, 5] rfl ?_
          exact (ih.2.2.2) x0 x1 (x2 + (1 : Int32)) x3 x4 x5 r2.2
    · intro x0 x1 x2 x3 x4 x5 σ
      unfold f_X11_pump_L11
      refine T_go (S' := (27, [(5, .inl ((x5 + (1 : Int32)))), (0, .inr (.inr (x0))), (1, .inl (x1)), (2, .inl (x2)), (3, .inl (x3)), (4, .inl (x4))], [], hp σ, 1, 6)) 2 rfl ?_
      refine T_loc (ls' := [(0, .inr (.inr (x0))), (1, .inl (x1)), (2, .inl (x2)), (3, .inl (x3)), (4, .inl (x4)), (5, .inl ((x5 + (1 : Int32))))]) [1, 2, 3, 4, 5, 0] rfl ?_
      exact (ih.2.2.1) x0 x1 x2 x3 x4 (x5 + (1 : Int32)) σ
def f_X11_pump (x0 : Nat) (x1 : Int32) (σ : eMem) : Option ((Nat ⊕ Int32) × eMem) :=
  eThen (f_X11_needWithin x1 (1 : Int32) (20 : Int32) σ) (fun v1 σ2 =>
    f_X11_pump_L11 1000000 (.inl (x0, x1, (0 : Int32), (0 : Int32))) σ2
    )
set_option maxHeartbeats 4000000 in
set_option maxRecDepth 20000 in
theorem s_X11_pump (x0 : Nat) (x1 : Int32) (σ : eMem) : ∀ r, f_X11_pump x0 x1 σ = some r → Ew false 7 106 [.inr (.inr (x0)), .inl (x1)] (hp σ) (cX iI r) := by
  refine T_meth (md := m_X11_pump) (d0 := 6) (cv := (cX iI)) rfl (lb rfl) (lb rfl) ?_
  unfold f_X11_pump
  show Snd false none _ _ _ _ (0, [(0, .inr (.inr (x0))), (1, .inl (x1))], [], hp σ, 0, 0)
  refine T_go (S' := (4, [(0, .inr (.inr (x0))), (1, .inl (x1))], [.inl ((20 : Int32)), .inl ((1 : Int32)), .inl (x1)], hp σ, 0, 0)) 3 rfl ?_
  refine T_csx (i := iU) (as := [.inl (x1), .inl ((1 : Int32)), .inl ((20 : Int32))]) (rest := []) (st := [.inl ((20 : Int32)), .inl ((1 : Int32)), .inl (x1)]) rfl rfl (lb rfl) rfl rfl ⟨lb rfl, lb rfl, lb rfl, lb rfl⟩ (fun _ h => Ew_le (lb rfl) (s_X11_needWithin x1 (1 : Int32) (20 : Int32) σ _ h)) (fun v1 σ2 => ?_)
  show Snd false none _ _ _ (cX iI) (7, [(0, .inr (.inr (x0))), (1, .inl (x1))], [], hp σ2, 1, 6)
  refine T_go (S' := (11, [(3, .inl ((0 : Int32))), (2, .inl ((0 : Int32))), (0, .inr (.inr (x0))), (1, .inl (x1))], [], hp σ2, 1, 6)) 4 rfl ?_
  refine T_loc (ls' := [(0, .inr (.inr (x0))), (1, .inl (x1)), (2, .inl ((0 : Int32))), (3, .inl ((0 : Int32)))]) [2, 3, 1, 0] rfl ?_
  exact (s_X11_pump_L11 1000000).1 x0 x1 (0 : Int32) (0 : Int32) σ2
def f_X11_queued (x0 : Nat) (x1 : Int32) (x2 : Int32) (σ : eMem) : Option ((Nat ⊕ Int32) × eMem) :=
  eThen (f_X11_needIndex x2 (5 : Int32) σ) (fun v1 σ2 =>
    eThen (f_X11_needWithin x1 (0 : Int32) (2 : Int32) σ2) (fun v3 σ4 =>
      if (KH x0).1 = 9 then
        if (KH (RH x0 1)).1 = 3 then
          Option.bind (f_X3_size (RH x0 1) x1 x2 σ4) (fun r5 =>
            some (.inr r5.1, r5.2)
            )
        else none
      else none
      )
    )
set_option maxHeartbeats 4000000 in
set_option maxRecDepth 20000 in
theorem s_X11_queued (x0 : Nat) (x1 : Int32) (x2 : Int32) (σ : eMem) : ∀ r, f_X11_queued x0 x1 x2 σ = some r → Ew false 2 107 [.inr (.inr (x0)), .inl (x1), .inl (x2)] (hp σ) (cX iI r) := by
  refine T_meth (md := m_X11_queued) (d0 := 1) (cv := (cX iI)) rfl (lb rfl) (lb rfl) ?_
  unfold f_X11_queued
  show Snd false none _ _ _ _ (0, [(0, .inr (.inr (x0))), (1, .inl (x1)), (2, .inl (x2))], [], hp σ, 0, 0)
  refine T_go (S' := (2, [(0, .inr (.inr (x0))), (1, .inl (x1)), (2, .inl (x2))], [.inl ((5 : Int32)), .inl (x2)], hp σ, 0, 0)) 2 rfl ?_
  refine T_csx (i := iU) (as := [.inl (x2), .inl ((5 : Int32))]) (rest := []) (st := [.inl ((5 : Int32)), .inl (x2)]) rfl rfl (lb rfl) rfl rfl ⟨lb rfl, lb rfl, lb rfl, lb rfl⟩ (fun _ h => Ew_le (lb rfl) (s_X11_needIndex x2 (5 : Int32) σ _ h)) (fun v1 σ2 => ?_)
  show Snd false none _ _ _ (cX iI) (5, [(0, .inr (.inr (x0))), (1, .inl (x1)), (2, .inl (x2))], [], hp σ2, 1, 6)
  refine T_go (S' := (8, [(0, .inr (.inr (x0))), (1, .inl (x1)), (2, .inl (x2))], [.inl ((2 : Int32)), .inl ((0 : Int32)), .inl (x1)], hp σ2, 1, 6)) 3 rfl ?_
  refine T_csx (i := iU) (as := [.inl (x1), .inl ((0 : Int32)), .inl ((2 : Int32))]) (rest := []) (st := [.inl ((2 : Int32)), .inl ((0 : Int32)), .inl (x1)]) rfl rfl (lb rfl) rfl rfl ⟨lb rfl, lb rfl, lb rfl, lb rfl⟩ (fun _ h => Ew_le (lb rfl) (s_X11_needWithin x1 (0 : Int32) (2 : Int32) σ2 _ h)) (fun v3 σ4 => ?_)
  show Snd false none _ _ _ (cX iI) (11, [(0, .inr (.inr (x0))), (1, .inl (x1)), (2, .inl (x2))], [], hp σ4, 2, 12)
  refine T_go (S' := (12, [(0, .inr (.inr (x0))), (1, .inl (x1)), (2, .inl (x2))], [.inr (.inr (x0))], hp σ4, 2, 12)) 1 rfl ?_
  refine T_getR rfl (fun _ => ?_)
  refine T_go (S' := (17, [(0, .inr (.inr (x0))), (1, .inl (x1)), (2, .inl (x2))], [.inl (x2), .inl (x1), .inr (.inr ((RH x0 1)))], hp σ4, 2, 12)) 2 rfl ?_
  refine T_cv (i := iI) (as := [.inr (.inr ((RH x0 1))), .inl (x1), .inl (x2)]) (rest := []) (st := [.inl (x2), .inl (x1), .inr (.inr ((RH x0 1)))]) rfl rfl rfl ⟨lb rfl, lb rfl, lb rfl, lb rfl⟩ (fun _ h => Ew_le (lb rfl) (s_X3_size (RH x0 1) x1 x2 σ4 _ h)) (fun _ r5 => ?_)
  show Snd false none _ _ _ (cX iI) (20, [(0, .inr (.inr (x0))), (1, .inl (x1)), (2, .inl (x2))], [.inl (r5.1)], hp r5.2, 2, 12)
  exact T_ret rfl
def f_X11_stateOf_58 (s0 : Int32) (σ : eMem) : Option ((Nat ⊕ Int32) × eMem) :=
  some (.inr s0, σ)
set_option maxHeartbeats 4000000 in
set_option maxRecDepth 20000 in
theorem s_X11_stateOf_58 (s0 : Int32) (σ : eMem) : Snd false none 2 m_X11_stateOf (f_X11_stateOf_58 s0 σ) (cX iI) (58, [], [.inl (s0)], hp σ, 2, 12) := by
  unfold f_X11_stateOf_58
  exact T_ret rfl
def f_X11_stateOf_31 (x0 : Nat) (x1 : Int32) (x2 : Int32) (s0 : Int32) (σ : eMem) : Option ((Nat ⊕ Int32) × eMem) :=
  if (KH x0).1 = 9 then
    if (KH (RH x0 3)).1 = 14 ∧ eix x1 (KH (RH x0 3)).2 = true then
      if (KH (RH (RH x0 3) x1.toNatClampNeg)).1 = 0 then
        if (KH (RH (RH (RH x0 3) x1.toNatClampNeg) 4)).1 = 11 ∧ eix x2 (KH (RH (RH (RH x0 3) x1.toNatClampNeg) 4)).2 = true then
          if ¬ (σ.1 (RH (RH (RH x0 3) x1.toNatClampNeg) 4) x2.toNatClampNeg) = (-1 : Int32) then
            f_X11_stateOf_58 (s0 + (10 : Int32)) σ
          else
            f_X11_stateOf_58 s0 σ
        else none
      else none
    else none
  else none
set_option maxHeartbeats 4000000 in
set_option maxRecDepth 20000 in
theorem s_X11_stateOf_31 (x0 : Nat) (x1 : Int32) (x2 : Int32) (s0 : Int32) (σ : eMem) : Snd false none 2 m_X11_stateOf (f_X11_stateOf_31 x0 x1 x2 s0 σ) (cX iI) (31, [(0, .inr (.inr (x0))), (1, .inl (x1)), (2, .inl (x2))], [.inl (s0)], hp σ, 2, 12) := by
  unfold f_X11_stateOf_31
  refine T_go (S' := (34, [(4, .inl (s0)), (0, .inr (.inr (x0))), (1, .inl (x1)), (2, .inl (x2))], [.inr (.inr (x0))], hp σ, 2, 12)) 2 rfl ?_
  refine T_getR rfl (fun _ => ?_)
  refine T_go (S' := (38, [(4, .inl (s0)), (0, .inr (.inr (x0))), (1, .inl (x1)), (2, .inl (x2))], [.inl (x1), .inr (.inr ((RH x0 3)))], hp σ, 2, 12)) 1 rfl ?_
  refine T_aald rfl (fun _ => ?_)
  refine T_getR rfl (fun _ => ?_)
  refine T_go (S' := (43, [(4, .inl (s0)), (0, .inr (.inr (x0))), (1, .inl (x1)), (2, .inl (x2))], [.inl (x2), .inr (.inr ((RH (RH (RH x0 3) x1.toNatClampNeg) 4)))], hp σ, 2, 12)) 1 rfl ?_
  refine T_iald rfl (fun _ => ?_)
  refine T_go (S' := (45, [(4, .inl (s0)), (0, .inr (.inr (x0))), (1, .inl (x1)), (2, .inl (x2))], [.inl ((-1 : Int32)), .inl ((σ.1 (RH (RH (RH x0 3) x1.toNatClampNeg) 4) x2.toNatClampNeg))], hp σ, 2, 12)) 1 rfl ?_
  refine T_icmp_ne 53 rfl rfl (fun _ => ?_) (fun _ => ?_)
  · refine T_go (S' := (58, [(4, .inl (s0)), (0, .inr (.inr (x0))), (1, .inl (x1)), (2, .inl (x2))], [.inl ((s0 + (10 : Int32)))], hp σ, 2, 12)) 3 rfl ?_
    refine T_loc (ls' := []) [] rfl ?_
    exact s_X11_stateOf_58 (s0 + (10 : Int32)) σ
  · refine T_go (S' := (58, [(4, .inl (s0)), (0, .inr (.inr (x0))), (1, .inl (x1)), (2, .inl (x2))], [.inl (s0)], hp σ, 2, 12)) 2 rfl ?_
    refine T_loc (ls' := []) [] rfl ?_
    exact s_X11_stateOf_58 s0 σ
def f_X11_stateOf (x0 : Nat) (x1 : Int32) (x2 : Int32) (σ : eMem) : Option ((Nat ⊕ Int32) × eMem) :=
  eThen (f_X11_needCore x1 σ) (fun v1 σ2 =>
    eThen (f_X11_needLine x2 σ2) (fun v3 σ4 =>
      if (KH x0).1 = 9 then
        if (KH (RH x0 3)).1 = 14 ∧ eix x1 (KH (RH x0 3)).2 = true then
          if (KH (RH (RH x0 3) x1.toNatClampNeg)).1 = 0 then
            Option.bind (f_X0_placeOf (RH (RH x0 3) x1.toNatClampNeg) x2 σ4) (fun r5 =>
              if r5.1 = 0 then
                f_X11_stateOf_31 x0 x1 x2 (0 : Int32) r5.2
              else
                if (KH r5.1).1 = 6 then
                  f_X11_stateOf_31 x0 x1 x2 (r5.2.1 r5.1 1) r5.2
                else none
              )
          else none
        else none
      else none
      )
    )
set_option maxHeartbeats 4000000 in
set_option maxRecDepth 20000 in
theorem s_X11_stateOf (x0 : Nat) (x1 : Int32) (x2 : Int32) (σ : eMem) : ∀ r, f_X11_stateOf x0 x1 x2 σ = some r → Ew false 3 108 [.inr (.inr (x0)), .inl (x1), .inl (x2)] (hp σ) (cX iI r) := by
  refine T_meth (md := m_X11_stateOf) (d0 := 2) (cv := (cX iI)) rfl (lb rfl) (lb rfl) ?_
  unfold f_X11_stateOf
  show Snd false none _ _ _ _ (0, [(0, .inr (.inr (x0))), (1, .inl (x1)), (2, .inl (x2))], [], hp σ, 0, 0)
  refine T_go (S' := (1, [(0, .inr (.inr (x0))), (1, .inl (x1)), (2, .inl (x2))], [.inl (x1)], hp σ, 0, 0)) 1 rfl ?_
  refine T_csx (i := iU) (as := [.inl (x1)]) (rest := []) (st := [.inl (x1)]) rfl rfl (lb rfl) rfl rfl ⟨lb rfl, lb rfl, lb rfl, lb rfl⟩ (fun _ h => Ew_le (lb rfl) (s_X11_needCore x1 σ _ h)) (fun v1 σ2 => ?_)
  show Snd false none _ _ _ (cX iI) (4, [(0, .inr (.inr (x0))), (1, .inl (x1)), (2, .inl (x2))], [], hp σ2, 1, 6)
  refine T_go (S' := (5, [(0, .inr (.inr (x0))), (1, .inl (x1)), (2, .inl (x2))], [.inl (x2)], hp σ2, 1, 6)) 1 rfl ?_
  refine T_csx (i := iU) (as := [.inl (x2)]) (rest := []) (st := [.inl (x2)]) rfl rfl (lb rfl) rfl rfl ⟨lb rfl, lb rfl, lb rfl, lb rfl⟩ (fun _ h => Ew_le (lb rfl) (s_X11_needLine x2 σ2 _ h)) (fun v3 σ4 => ?_)
  show Snd false none _ _ _ (cX iI) (8, [(0, .inr (.inr (x0))), (1, .inl (x1)), (2, .inl (x2))], [], hp σ4, 2, 12)
  refine T_go (S' := (9, [(0, .inr (.inr (x0))), (1, .inl (x1)), (2, .inl (x2))], [.inr (.inr (x0))], hp σ4, 2, 12)) 1 rfl ?_
  refine T_getR rfl (fun _ => ?_)
  refine T_go (S' := (13, [(0, .inr (.inr (x0))), (1, .inl (x1)), (2, .inl (x2))], [.inl (x1), .inr (.inr ((RH x0 3)))], hp σ4, 2, 12)) 1 rfl ?_
  refine T_aald rfl (fun _ => ?_)
  refine T_go (S' := (15, [(0, .inr (.inr (x0))), (1, .inl (x1)), (2, .inl (x2))], [.inl (x2), .inr (.inr ((RH (RH x0 3) x1.toNatClampNeg)))], hp σ4, 2, 12)) 1 rfl ?_
  refine T_cv (i := iR) (as := [.inr (.inr ((RH (RH x0 3) x1.toNatClampNeg))), .inl (x2)]) (rest := []) (st := [.inl (x2), .inr (.inr ((RH (RH x0 3) x1.toNatClampNeg)))]) rfl rfl rfl ⟨lb rfl, lb rfl, lb rfl, lb rfl⟩ (fun _ h => Ew_le (lb rfl) (s_X0_placeOf (RH (RH x0 3) x1.toNatClampNeg) x2 σ4 _ h)) (fun _ r5 => ?_)
  show Snd false none _ _ _ (cX iI) (18, [(0, .inr (.inr (x0))), (1, .inl (x1)), (2, .inl (x2))], [.inr (.inr (r5.1))], hp r5.2, 2, 12)
  refine T_go (S' := (20, [(3, .inr (.inr (r5.1))), (0, .inr (.inr (x0))), (1, .inl (x1)), (2, .inl (x2))], [.inr (.inr (r5.1))], hp r5.2, 2, 12)) 2 rfl ?_
  refine T_ifnonnull 27 rfl rfl (fun _ => ?_) (fun _ => ?_)
  · refine T_go (S' := (31, [(3, .inr (.inr (r5.1))), (0, .inr (.inr (x0))), (1, .inl (x1)), (2, .inl (x2))], [.inl ((0 : Int32))], hp r5.2, 2, 12)) 2 rfl ?_
    refine T_loc (ls' := [(0, .inr (.inr (x0))), (1, .inl (x1)), (2, .inl (x2))]) [1, 2, 3] rfl ?_
    exact s_X11_stateOf_31 x0 x1 x2 (0 : Int32) r5.2
  · refine T_go (S' := (28, [(3, .inr (.inr (r5.1))), (0, .inr (.inr (x0))), (1, .inl (x1)), (2, .inl (x2))], [.inr (.inr (r5.1))], hp r5.2, 2, 12)) 1 rfl ?_
    refine T_getI rfl (fun _ => ?_)
    refine T_loc (ls' := [(0, .inr (.inr (x0))), (1, .inl (x1)), (2, .inl (x2))]) [1, 2, 3] rfl ?_
    exact s_X11_stateOf_31 x0 x1 x2 (r5.2.1 r5.1 1) r5.2
def f_X11_valueIn_38 (s0 : Int32) (σ : eMem) : Option ((Nat ⊕ Int32) × eMem) :=
  some (.inr s0, σ)
set_option maxHeartbeats 4000000 in
set_option maxRecDepth 20000 in
theorem s_X11_valueIn_38 (s0 : Int32) (σ : eMem) : Snd false none 2 m_X11_valueIn (f_X11_valueIn_38 s0 σ) (cX iI) (38, [], [.inl (s0)], hp σ, 2, 12) := by
  unfold f_X11_valueIn_38
  exact T_ret rfl
def f_X11_valueIn_37  (σ : eMem) : Option ((Nat ⊕ Int32) × eMem) :=
  f_X11_valueIn_38 (-1 : Int32) σ
set_option maxHeartbeats 4000000 in
set_option maxRecDepth 20000 in
theorem s_X11_valueIn_37  (σ : eMem) : Snd false none 2 m_X11_valueIn (f_X11_valueIn_37 σ) (cX iI) (37, [], [], hp σ, 2, 12) := by
  unfold f_X11_valueIn_37
  refine T_go (S' := (38, [], [.inl ((-1 : Int32))], hp σ, 2, 12)) 1 rfl ?_
  refine T_loc (ls' := []) [] rfl ?_
  exact s_X11_valueIn_38 (-1 : Int32) σ
def f_X11_valueIn (x0 : Nat) (x1 : Int32) (x2 : Int32) (σ : eMem) : Option ((Nat ⊕ Int32) × eMem) :=
  eThen (f_X11_needCore x1 σ) (fun v1 σ2 =>
    eThen (f_X11_needLine x2 σ2) (fun v3 σ4 =>
      if (KH x0).1 = 9 then
        if (KH (RH x0 3)).1 = 14 ∧ eix x1 (KH (RH x0 3)).2 = true then
          if (KH (RH (RH x0 3) x1.toNatClampNeg)).1 = 0 then
            Option.bind (f_X0_placeOf (RH (RH x0 3) x1.toNatClampNeg) x2 σ4) (fun r5 =>
              if r5.1 = 0 then
                f_X11_valueIn_37  r5.2
              else
                if (KH r5.1).1 = 6 then
                  Option.bind (f_X7_hasValue r5.1 r5.2) (fun r6 =>
                    if r6.1 = (0 : Int32) then
                      f_X11_valueIn_37  r6.2
                    else
                      if (KH r5.1).1 = 6 then
                        f_X11_valueIn_38 (r6.2.1 r5.1 2) r6.2
                      else none
                    )
                else none
              )
          else none
        else none
      else none
      )
    )
set_option maxHeartbeats 4000000 in
set_option maxRecDepth 20000 in
theorem s_X11_valueIn (x0 : Nat) (x1 : Int32) (x2 : Int32) (σ : eMem) : ∀ r, f_X11_valueIn x0 x1 x2 σ = some r → Ew false 3 109 [.inr (.inr (x0)), .inl (x1), .inl (x2)] (hp σ) (cX iI r) := by
  refine T_meth (md := m_X11_valueIn) (d0 := 2) (cv := (cX iI)) rfl (lb rfl) (lb rfl) ?_
  unfold f_X11_valueIn
  show Snd false none _ _ _ _ (0, [(0, .inr (.inr (x0))), (1, .inl (x1)), (2, .inl (x2))], [], hp σ, 0, 0)
  refine T_go (S' := (1, [(0, .inr (.inr (x0))), (1, .inl (x1)), (2, .inl (x2))], [.inl (x1)], hp σ, 0, 0)) 1 rfl ?_
  refine T_csx (i := iU) (as := [.inl (x1)]) (rest := []) (st := [.inl (x1)]) rfl rfl (lb rfl) rfl rfl ⟨lb rfl, lb rfl, lb rfl, lb rfl⟩ (fun _ h => Ew_le (lb rfl) (s_X11_needCore x1 σ _ h)) (fun v1 σ2 => ?_)
  show Snd false none _ _ _ (cX iI) (4, [(0, .inr (.inr (x0))), (1, .inl (x1)), (2, .inl (x2))], [], hp σ2, 1, 6)
  refine T_go (S' := (5, [(0, .inr (.inr (x0))), (1, .inl (x1)), (2, .inl (x2))], [.inl (x2)], hp σ2, 1, 6)) 1 rfl ?_
  refine T_csx (i := iU) (as := [.inl (x2)]) (rest := []) (st := [.inl (x2)]) rfl rfl (lb rfl) rfl rfl ⟨lb rfl, lb rfl, lb rfl, lb rfl⟩ (fun _ h => Ew_le (lb rfl) (s_X11_needLine x2 σ2 _ h)) (fun v3 σ4 => ?_)
  show Snd false none _ _ _ (cX iI) (8, [(0, .inr (.inr (x0))), (1, .inl (x1)), (2, .inl (x2))], [], hp σ4, 2, 12)
  refine T_go (S' := (9, [(0, .inr (.inr (x0))), (1, .inl (x1)), (2, .inl (x2))], [.inr (.inr (x0))], hp σ4, 2, 12)) 1 rfl ?_
  refine T_getR rfl (fun _ => ?_)
  refine T_go (S' := (13, [(0, .inr (.inr (x0))), (1, .inl (x1)), (2, .inl (x2))], [.inl (x1), .inr (.inr ((RH x0 3)))], hp σ4, 2, 12)) 1 rfl ?_
  refine T_aald rfl (fun _ => ?_)
  refine T_go (S' := (15, [(0, .inr (.inr (x0))), (1, .inl (x1)), (2, .inl (x2))], [.inl (x2), .inr (.inr ((RH (RH x0 3) x1.toNatClampNeg)))], hp σ4, 2, 12)) 1 rfl ?_
  refine T_cv (i := iR) (as := [.inr (.inr ((RH (RH x0 3) x1.toNatClampNeg))), .inl (x2)]) (rest := []) (st := [.inl (x2), .inr (.inr ((RH (RH x0 3) x1.toNatClampNeg)))]) rfl rfl rfl ⟨lb rfl, lb rfl, lb rfl, lb rfl⟩ (fun _ h => Ew_le (lb rfl) (s_X0_placeOf (RH (RH x0 3) x1.toNatClampNeg) x2 σ4 _ h)) (fun _ r5 => ?_)
  show Snd false none _ _ _ (cX iI) (18, [(0, .inr (.inr (x0))), (1, .inl (x1)), (2, .inl (x2))], [.inr (.inr (r5.1))], hp r5.2, 2, 12)
  refine T_go (S' := (20, [(3, .inr (.inr (r5.1))), (0, .inr (.inr (x0))), (1, .inl (x1)), (2, .inl (x2))], [.inr (.inr (r5.1))], hp r5.2, 2, 12)) 2 rfl ?_
  refine T_ifnull 37 rfl rfl (fun _ => ?_) (fun _ => ?_)
  · refine T_loc (ls' := []) [] rfl ?_
    exact s_X11_valueIn_37  r5.2
  · refine T_go (S' := (24, [(3, .inr (.inr (r5.1))), (0, .inr (.inr (x0))), (1, .inl (x1)), (2, .inl (x2))], [.inr (.inr (r5.1))], hp r5.2, 2, 12)) 1 rfl ?_
    refine T_cv (i := iI) (as := [.inr (.inr (r5.1))]) (rest := []) (st := [.inr (.inr (r5.1))]) rfl rfl rfl ⟨lb rfl, lb rfl, lb rfl, lb rfl⟩ (fun _ h => Ew_le (lb rfl) (s_X7_hasValue r5.1 r5.2 _ h)) (fun _ r6 => ?_)
    show Snd false none _ _ _ (cX iI) (27, [(3, .inr (.inr (r5.1))), (0, .inr (.inr (x0))), (1, .inl (x1)), (2, .inl (x2))], [.inl (r6.1)], hp r6.2, 2, 12)
    refine T_if_eq 37 rfl rfl (fun _ => ?_) (fun _ => ?_)
    · refine T_loc (ls' := []) [] rfl ?_
      exact s_X11_valueIn_37  r6.2
    · refine T_go (S' := (31, [(3, .inr (.inr (r5.1))), (0, .inr (.inr (x0))), (1, .inl (x1)), (2, .inl (x2))], [.inr (.inr (r5.1))], hp r6.2, 2, 12)) 1 rfl ?_
      refine T_getI rfl (fun _ => ?_)
      refine T_go (S' := (38, [(3, .inr (.inr (r5.1))), (0, .inr (.inr (x0))), (1, .inl (x1)), (2, .inl (x2))], [.inl ((r6.2.1 r5.1 2))], hp r6.2, 2, 12)) 1 rfl ?_
      refine T_loc (ls' := []) [] rfl ?_
      exact s_X11_valueIn_38 (r6.2.1 r5.1 2) r6.2
def f_X11_home (x0 : Nat) (x1 : Int32) (σ : eMem) : Option ((Nat ⊕ Int32) × eMem) :=
  eThen (f_X11_needLine x1 σ) (fun v1 σ2 =>
    if (KH x0).1 = 9 then
      if (KH (RH x0 2)).1 = 1 then
        if (KH (RH (RH x0 2) 0)).1 = 15 ∧ eix x1 (KH (RH (RH x0 2) 0)).2 = true then
          if (KH (RH (RH (RH x0 2) 0) x1.toNatClampNeg)).1 = 2 then
            some (.inr (σ2.1 (RH (RH (RH x0 2) 0) x1.toNatClampNeg) 0), σ2)
          else none
        else none
      else none
    else none
    )
set_option maxHeartbeats 4000000 in
set_option maxRecDepth 20000 in
theorem s_X11_home (x0 : Nat) (x1 : Int32) (σ : eMem) : ∀ r, f_X11_home x0 x1 σ = some r → Ew false 3 110 [.inr (.inr (x0)), .inl (x1)] (hp σ) (cX iI r) := by
  refine T_meth (md := m_X11_home) (d0 := 2) (cv := (cX iI)) rfl (lb rfl) (lb rfl) ?_
  unfold f_X11_home
  show Snd false none _ _ _ _ (0, [(0, .inr (.inr (x0))), (1, .inl (x1))], [], hp σ, 0, 0)
  refine T_go (S' := (1, [(0, .inr (.inr (x0))), (1, .inl (x1))], [.inl (x1)], hp σ, 0, 0)) 1 rfl ?_
  refine T_csx (i := iU) (as := [.inl (x1)]) (rest := []) (st := [.inl (x1)]) rfl rfl (lb rfl) rfl rfl ⟨lb rfl, lb rfl, lb rfl, lb rfl⟩ (fun _ h => Ew_le (lb rfl) (s_X11_needLine x1 σ _ h)) (fun v1 σ2 => ?_)
  show Snd false none _ _ _ (cX iI) (4, [(0, .inr (.inr (x0))), (1, .inl (x1))], [], hp σ2, 1, 6)
  refine T_go (S' := (5, [(0, .inr (.inr (x0))), (1, .inl (x1))], [.inr (.inr (x0))], hp σ2, 1, 6)) 1 rfl ?_
  refine T_getR rfl (fun _ => ?_)
  refine T_getR rfl (fun _ => ?_)
  refine T_go (S' := (12, [(0, .inr (.inr (x0))), (1, .inl (x1))], [.inl (x1), .inr (.inr ((RH (RH x0 2) 0)))], hp σ2, 1, 6)) 1 rfl ?_
  refine T_aald rfl (fun _ => ?_)
  refine T_getI rfl (fun _ => ?_)
  exact T_ret rfl
def f_X11_owner (x0 : Nat) (x1 : Int32) (σ : eMem) : Option ((Nat ⊕ Int32) × eMem) :=
  eThen (f_X11_needLine x1 σ) (fun v1 σ2 =>
    if (KH x0).1 = 9 then
      if (KH (RH x0 2)).1 = 1 then
        if (KH (RH (RH x0 2) 0)).1 = 15 ∧ eix x1 (KH (RH (RH x0 2) 0)).2 = true then
          if (KH (RH (RH (RH x0 2) 0) x1.toNatClampNeg)).1 = 2 then
            some (.inr (σ2.1 (RH (RH (RH x0 2) 0) x1.toNatClampNeg) 1), σ2)
          else none
        else none
      else none
    else none
    )
set_option maxHeartbeats 4000000 in
set_option maxRecDepth 20000 in
theorem s_X11_owner (x0 : Nat) (x1 : Int32) (σ : eMem) : ∀ r, f_X11_owner x0 x1 σ = some r → Ew false 3 111 [.inr (.inr (x0)), .inl (x1)] (hp σ) (cX iI r) := by
  refine T_meth (md := m_X11_owner) (d0 := 2) (cv := (cX iI)) rfl (lb rfl) (lb rfl) ?_
  unfold f_X11_owner
  show Snd false none _ _ _ _ (0, [(0, .inr (.inr (x0))), (1, .inl (x1))], [], hp σ, 0, 0)
  refine T_go (S' := (1, [(0, .inr (.inr (x0))), (1, .inl (x1))], [.inl (x1)], hp σ, 0, 0)) 1 rfl ?_
  refine T_csx (i := iU) (as := [.inl (x1)]) (rest := []) (st := [.inl (x1)]) rfl rfl (lb rfl) rfl rfl ⟨lb rfl, lb rfl, lb rfl, lb rfl⟩ (fun _ h => Ew_le (lb rfl) (s_X11_needLine x1 σ _ h)) (fun v1 σ2 => ?_)
  show Snd false none _ _ _ (cX iI) (4, [(0, .inr (.inr (x0))), (1, .inl (x1))], [], hp σ2, 1, 6)
  refine T_go (S' := (5, [(0, .inr (.inr (x0))), (1, .inl (x1))], [.inr (.inr (x0))], hp σ2, 1, 6)) 1 rfl ?_
  refine T_getR rfl (fun _ => ?_)
  refine T_getR rfl (fun _ => ?_)
  refine T_go (S' := (12, [(0, .inr (.inr (x0))), (1, .inl (x1))], [.inl (x1), .inr (.inr ((RH (RH x0 2) 0)))], hp σ2, 1, 6)) 1 rfl ?_
  refine T_aald rfl (fun _ => ?_)
  refine T_getI rfl (fun _ => ?_)
  exact T_ret rfl
def f_X11_sharers (x0 : Nat) (x1 : Int32) (σ : eMem) : Option ((Nat ⊕ Int32) × eMem) :=
  eThen (f_X11_needLine x1 σ) (fun v1 σ2 =>
    if (KH x0).1 = 9 then
      if (KH (RH x0 2)).1 = 1 then
        if (KH (RH (RH x0 2) 0)).1 = 15 ∧ eix x1 (KH (RH (RH x0 2) 0)).2 = true then
          if (KH (RH (RH (RH x0 2) 0) x1.toNatClampNeg)).1 = 2 then
            some (.inr (σ2.1 (RH (RH (RH x0 2) 0) x1.toNatClampNeg) 2), σ2)
          else none
        else none
      else none
    else none
    )
set_option maxHeartbeats 4000000 in
set_option maxRecDepth 20000 in
theorem s_X11_sharers (x0 : Nat) (x1 : Int32) (σ : eMem) : ∀ r, f_X11_sharers x0 x1 σ = some r → Ew false 3 112 [.inr (.inr (x0)), .inl (x1)] (hp σ) (cX iI r) := by
  refine T_meth (md := m_X11_sharers) (d0 := 2) (cv := (cX iI)) rfl (lb rfl) (lb rfl) ?_
  unfold f_X11_sharers
  show Snd false none _ _ _ _ (0, [(0, .inr (.inr (x0))), (1, .inl (x1))], [], hp σ, 0, 0)
  refine T_go (S' := (1, [(0, .inr (.inr (x0))), (1, .inl (x1))], [.inl (x1)], hp σ, 0, 0)) 1 rfl ?_
  refine T_csx (i := iU) (as := [.inl (x1)]) (rest := []) (st := [.inl (x1)]) rfl rfl (lb rfl) rfl rfl ⟨lb rfl, lb rfl, lb rfl, lb rfl⟩ (fun _ h => Ew_le (lb rfl) (s_X11_needLine x1 σ _ h)) (fun v1 σ2 => ?_)
  show Snd false none _ _ _ (cX iI) (4, [(0, .inr (.inr (x0))), (1, .inl (x1))], [], hp σ2, 1, 6)
  refine T_go (S' := (5, [(0, .inr (.inr (x0))), (1, .inl (x1))], [.inr (.inr (x0))], hp σ2, 1, 6)) 1 rfl ?_
  refine T_getR rfl (fun _ => ?_)
  refine T_getR rfl (fun _ => ?_)
  refine T_go (S' := (12, [(0, .inr (.inr (x0))), (1, .inl (x1))], [.inl (x1), .inr (.inr ((RH (RH x0 2) 0)))], hp σ2, 1, 6)) 1 rfl ?_
  refine T_aald rfl (fun _ => ?_)
  refine T_getI rfl (fun _ => ?_)
  exact T_ret rfl
def f_X11_waiting_34 (s0 : Int32) (σ : eMem) : Option ((Nat ⊕ Int32) × eMem) :=
  some (.inr s0, σ)
set_option maxHeartbeats 4000000 in
set_option maxRecDepth 20000 in
theorem s_X11_waiting_34 (s0 : Int32) (σ : eMem) : Snd false none 2 m_X11_waiting (f_X11_waiting_34 s0 σ) (cX iI) (34, [], [.inl (s0)], hp σ, 1, 6) := by
  unfold f_X11_waiting_34
  exact T_ret rfl
def f_X11_waiting (x0 : Nat) (x1 : Int32) (σ : eMem) : Option ((Nat ⊕ Int32) × eMem) :=
  eThen (f_X11_needLine x1 σ) (fun v1 σ2 =>
    if (KH x0).1 = 9 then
      if (KH (RH x0 2)).1 = 1 then
        if (KH (RH (RH x0 2) 0)).1 = 15 ∧ eix x1 (KH (RH (RH x0 2) 0)).2 = true then
          eLet ((RH (RH (RH x0 2) 0) x1.toNatClampNeg) : Nat) (fun v3 =>
            if (KH v3).1 = 2 then
              if (σ2.1 v3 3) = (0 : Int32) then
                if (KH v3).1 = 2 then
                  f_X11_waiting_34 (σ2.1 v3 7) σ2
                else none
              else
                if (KH v3).1 = 2 then
                  f_X11_waiting_34 ((σ2.1 v3 7) + (1 : Int32)) σ2
                else none
            else none
            )
        else none
      else none
    else none
    )
set_option maxHeartbeats 4000000 in
set_option maxRecDepth 20000 in
theorem s_X11_waiting (x0 : Nat) (x1 : Int32) (σ : eMem) : ∀ r, f_X11_waiting x0 x1 σ = some r → Ew false 3 113 [.inr (.inr (x0)), .inl (x1)] (hp σ) (cX iI r) := by
  refine T_meth (md := m_X11_waiting) (d0 := 2) (cv := (cX iI)) rfl (lb rfl) (lb rfl) ?_
  unfold f_X11_waiting
  show Snd false none _ _ _ _ (0, [(0, .inr (.inr (x0))), (1, .inl (x1))], [], hp σ, 0, 0)
  refine T_go (S' := (1, [(0, .inr (.inr (x0))), (1, .inl (x1))], [.inl (x1)], hp σ, 0, 0)) 1 rfl ?_
  refine T_csx (i := iU) (as := [.inl (x1)]) (rest := []) (st := [.inl (x1)]) rfl rfl (lb rfl) rfl rfl ⟨lb rfl, lb rfl, lb rfl, lb rfl⟩ (fun _ h => Ew_le (lb rfl) (s_X11_needLine x1 σ _ h)) (fun v1 σ2 => ?_)
  show Snd false none _ _ _ (cX iI) (4, [(0, .inr (.inr (x0))), (1, .inl (x1))], [], hp σ2, 1, 6)
  refine T_go (S' := (5, [(0, .inr (.inr (x0))), (1, .inl (x1))], [.inr (.inr (x0))], hp σ2, 1, 6)) 1 rfl ?_
  refine T_getR rfl (fun _ => ?_)
  refine T_getR rfl (fun _ => ?_)
  refine T_go (S' := (12, [(0, .inr (.inr (x0))), (1, .inl (x1))], [.inl (x1), .inr (.inr ((RH (RH x0 2) 0)))], hp σ2, 1, 6)) 1 rfl ?_
  refine T_aald rfl (fun _ => ?_)
  refine T_go (S' := (14, [(2, .inr (.inr ((RH (RH (RH x0 2) 0) x1.toNatClampNeg)))), (0, .inr (.inr (x0))), (1, .inl (x1))], [], hp σ2, 1, 6)) 1 rfl ?_
  refine T_let (Sf := fun v3 => (14, [(2, .inr (.inr (v3))), (0, .inr (.inr (x0))), (1, .inl (x1))], [], hp σ2, 1, 6)) (fun v3 => ?_)
  refine T_go (S' := (15, [(2, .inr (.inr (v3))), (0, .inr (.inr (x0))), (1, .inl (x1))], [.inr (.inr (v3))], hp σ2, 1, 6)) 1 rfl ?_
  refine T_getI rfl (fun _ => ?_)
  refine T_if_eq 30 rfl rfl (fun _ => ?_) (fun _ => ?_)
  · refine T_go (S' := (31, [(2, .inr (.inr (v3))), (0, .inr (.inr (x0))), (1, .inl (x1))], [.inr (.inr (v3))], hp σ2, 1, 6)) 1 rfl ?_
    refine T_getI rfl (fun _ => ?_)
    refine T_loc (ls' := []) [] rfl ?_
    exact s_X11_waiting_34 (σ2.1 v3 7) σ2
  · refine T_go (S' := (22, [(2, .inr (.inr (v3))), (0, .inr (.inr (x0))), (1, .inl (x1))], [.inr (.inr (v3))], hp σ2, 1, 6)) 1 rfl ?_
    refine T_getI rfl (fun _ => ?_)
    refine T_go (S' := (34, [(2, .inr (.inr (v3))), (0, .inr (.inr (x0))), (1, .inl (x1))], [.inl (((σ2.1 v3 7) + (1 : Int32)))], hp σ2, 1, 6)) 3 rfl ?_
    refine T_loc (ls' := []) [] rfl ?_
    exact s_X11_waiting_34 ((σ2.1 v3 7) + (1 : Int32)) σ2
def f_X11_truth_39 (x2 : Int32) (σ : eMem) : Option ((Nat ⊕ Int32) × eMem) :=
  some (.inr x2, σ)
set_option maxHeartbeats 4000000 in
set_option maxRecDepth 20000 in
theorem s_X11_truth_39 (x2 : Int32) (σ : eMem) : Snd false none 2 m_X11_truth (f_X11_truth_39 x2 σ) (cX iI) (39, [(2, .inl (x2))], [], hp σ, 1, 6) := by
  unfold f_X11_truth_39
  refine T_go (S' := (40, [(2, .inl (x2))], [.inl (x2)], hp σ, 1, 6)) 1 rfl ?_
  exact T_ret rfl
def f_X11_truth_121 (s0 : Int32) (σ : eMem) : Option ((Nat ⊕ Int32) × eMem) :=
  some (.inr s0, σ)
set_option maxHeartbeats 4000000 in
set_option maxRecDepth 20000 in
theorem s_X11_truth_121 (s0 : Int32) (σ : eMem) : Snd false none 2 m_X11_truth (f_X11_truth_121 s0 σ) (cX iI) (121, [], [.inl (s0)], hp σ, 1, 6) := by
  unfold f_X11_truth_121
  exact T_ret rfl
def f_X11_truth_72 (x0 : Nat) (x1 : Int32) (x2 : Int32) (x3 : Int32) (σ : eMem) : Option ((Nat ⊕ Int32) × eMem) :=
  if (KH x0).1 = 9 then
    if (KH (RH x0 3)).1 = 14 ∧ eix x3 (KH (RH x0 3)).2 = true then
      if (KH (RH (RH x0 3) x3.toNatClampNeg)).1 = 0 then
        if (KH (RH (RH (RH x0 3) x3.toNatClampNeg) 4)).1 = 11 ∧ eix x1 (KH (RH (RH (RH x0 3) x3.toNatClampNeg) 4)).2 = true then
          if (σ.1 (RH (RH (RH x0 3) x3.toNatClampNeg) 4) x1.toNatClampNeg) = (-1 : Int32) then
            if (KH x0).1 = 9 then
              if (KH (RH x0 1)).1 = 3 then
                Option.bind (f_X3_valueOnTheWayHome (RH x0 1) x1 σ) (fun r1 =>
                  if ¬ r1.1 = (-1 : Int32) then
                    f_X11_truth_121 r1.1 r1.2
                  else
                    f_X11_truth_121 x2 r1.2
                  )
              else none
            else none
          else
            if (KH x0).1 = 9 then
              if (KH (RH x0 3)).1 = 14 ∧ eix x3 (KH (RH x0 3)).2 = true then
                if (KH (RH (RH x0 3) x3.toNatClampNeg)).1 = 0 then
                  if (KH (RH (RH (RH x0 3) x3.toNatClampNeg) 4)).1 = 11 ∧ eix x1 (KH (RH (RH (RH x0 3) x3.toNatClampNeg) 4)).2 = true then
                    some (.inr (σ.1 (RH (RH (RH x0 3) x3.toNatClampNeg) 4) x1.toNatClampNeg), σ)
                  else none
                else none
              else none
            else none
        else none
      else none
    else none
  else none
set_option maxHeartbeats 4000000 in
set_option maxRecDepth 20000 in
theorem s_X11_truth_72 (x0 : Nat) (x1 : Int32) (x2 : Int32) (x3 : Int32) (σ : eMem) : Snd false none 2 m_X11_truth (f_X11_truth_72 x0 x1 x2 x3 σ) (cX iI) (72, [(0, .inr (.inr (x0))), (1, .inl (x1)), (2, .inl (x2)), (3, .inl (x3))], [], hp σ, 1, 6) := by
  unfold f_X11_truth_72
  refine T_go (S' := (73, [(0, .inr (.inr (x0))), (1, .inl (x1)), (2, .inl (x2)), (3, .inl (x3))], [.inr (.inr (x0))], hp σ, 1, 6)) 1 rfl ?_
  refine T_getR rfl (fun _ => ?_)
  refine T_go (S' := (77, [(0, .inr (.inr (x0))), (1, .inl (x1)), (2, .inl (x2)), (3, .inl (x3))], [.inl (x3), .inr (.inr ((RH x0 3)))], hp σ, 1, 6)) 1 rfl ?_
  refine T_aald rfl (fun _ => ?_)
  refine T_getR rfl (fun _ => ?_)
  refine T_go (S' := (82, [(0, .inr (.inr (x0))), (1, .inl (x1)), (2, .inl (x2)), (3, .inl (x3))], [.inl (x1), .inr (.inr ((RH (RH (RH x0 3) x3.toNatClampNeg) 4)))], hp σ, 1, 6)) 1 rfl ?_
  refine T_iald rfl (fun _ => ?_)
  refine T_go (S' := (84, [(0, .inr (.inr (x0))), (1, .inl (x1)), (2, .inl (x2)), (3, .inl (x3))], [.inl ((-1 : Int32)), .inl ((σ.1 (RH (RH (RH x0 3) x3.toNatClampNeg) 4) x1.toNatClampNeg))], hp σ, 1, 6)) 1 rfl ?_
  refine T_icmp_eq 99 rfl rfl (fun _ => ?_) (fun _ => ?_)
  · refine T_go (S' := (100, [(0, .inr (.inr (x0))), (1, .inl (x1)), (2, .inl (x2)), (3, .inl (x3))], [.inr (.inr (x0))], hp σ, 1, 6)) 1 rfl ?_
    refine T_getR rfl (fun _ => ?_)
    refine T_go (S' := (104, [(0, .inr (.inr (x0))), (1, .inl (x1)), (2, .inl (x2)), (3, .inl (x3))], [.inl (x1), .inr (.inr ((RH x0 1)))], hp σ, 1, 6)) 1 rfl ?_
    refine T_cv (i := iI) (as := [.inr (.inr ((RH x0 1))), .inl (x1)]) (rest := []) (st := [.inl (x1), .inr (.inr ((RH x0 1)))]) rfl rfl rfl ⟨lb rfl, lb rfl, lb rfl, lb rfl⟩ (fun _ h => Ew_le (lb rfl) (s_X3_valueOnTheWayHome (RH x0 1) x1 σ _ h)) (fun _ r1 => ?_)
    show Snd false none _ _ _ (cX iI) (107, [(0, .inr (.inr (x0))), (1, .inl (x1)), (2, .inl (x2)), (3, .inl (x3))], [.inl (r1.1)], hp r1.2, 1, 6)
    refine T_go (S' := (112, [(5, .inl (r1.1)), (0, .inr (.inr (x0))), (1, .inl (x1)), (2, .inl (x2)), (3, .inl (x3))], [.inl ((-1 : Int32)), .inl (r1.1)], hp r1.2, 1, 6)) 3 rfl ?_
    refine T_icmp_ne 119 rfl rfl (fun _ => ?_) (fun _ => ?_)
    · refine T_go (S' := (121, [(5, .inl (r1.1)), (0, .inr (.inr (x0))), (1, .inl (x1)), (2, .inl (x2)), (3, .inl (x3))], [.inl (r1.1)], hp r1.2, 1, 6)) 1 rfl ?_
      refine T_loc (ls' := []) [] rfl ?_
      exact s_X11_truth_121 r1.1 r1.2
    · refine T_go (S' := (121, [(5, .inl (r1.1)), (0, .inr (.inr (x0))), (1, .inl (x1)), (2, .inl (x2)), (3, .inl (x3))], [.inl (x2)], hp r1.2, 1, 6)) 2 rfl ?_
      refine T_loc (ls' := []) [] rfl ?_
      exact s_X11_truth_121 x2 r1.2
  · refine T_go (S' := (88, [(0, .inr (.inr (x0))), (1, .inl (x1)), (2, .inl (x2)), (3, .inl (x3))], [.inr (.inr (x0))], hp σ, 1, 6)) 1 rfl ?_
    refine T_getR rfl (fun _ => ?_)
    refine T_go (S' := (92, [(0, .inr (.inr (x0))), (1, .inl (x1)), (2, .inl (x2)), (3, .inl (x3))], [.inl (x3), .inr (.inr ((RH x0 3)))], hp σ, 1, 6)) 1 rfl ?_
    refine T_aald rfl (fun _ => ?_)
    refine T_getR rfl (fun _ => ?_)
    refine T_go (S' := (97, [(0, .inr (.inr (x0))), (1, .inl (x1)), (2, .inl (x2)), (3, .inl (x3))], [.inl (x1), .inr (.inr ((RH (RH (RH x0 3) x3.toNatClampNeg) 4)))], hp σ, 1, 6)) 1 rfl ?_
    refine T_iald rfl (fun _ => ?_)
    exact T_ret rfl
def f_X11_truth (x0 : Nat) (x1 : Int32) (σ : eMem) : Option ((Nat ⊕ Int32) × eMem) :=
  eThen (f_X11_needLine x1 σ) (fun v1 σ2 =>
    if (KH x0).1 = 9 then
      if (KH (RH x0 2)).1 = 1 then
        if (KH (RH (RH x0 2) 0)).1 = 15 ∧ eix x1 (KH (RH (RH x0 2) 0)).2 = true then
          if (KH (RH (RH (RH x0 2) 0) x1.toNatClampNeg)).1 = 2 then
            eLet ((σ2.1 (RH (RH (RH x0 2) 0) x1.toNatClampNeg) 0) : Int32) (fun v3 =>
              if (KH x0).1 = 9 then
                if (KH (RH x0 2)).1 = 1 then
                  if (KH (RH (RH x0 2) 0)).1 = 15 ∧ eix x1 (KH (RH (RH x0 2) 0)).2 = true then
                    if (KH (RH (RH (RH x0 2) 0) x1.toNatClampNeg)).1 = 2 then
                      eLet ((σ2.1 (RH (RH (RH x0 2) 0) x1.toNatClampNeg) 1) : Int32) (fun v4 =>
                        if v4 < (0 : Int32) then
                          f_X11_truth_39 v3 σ2
                        else
                          if v4 < (4 : Int32) then
                            if (KH x0).1 = 9 then
                              if (KH (RH x0 3)).1 = 14 ∧ eix v4 (KH (RH x0 3)).2 = true then
                                if (KH (RH (RH x0 3) v4.toNatClampNeg)).1 = 0 then
                                  Option.bind (f_X0_placeOf (RH (RH x0 3) v4.toNatClampNeg) x1 σ2) (fun r5 =>
                                    if r5.1 = 0 then
                                      f_X11_truth_72 x0 x1 v3 v4 r5.2
                                    else
                                      if (KH r5.1).1 = 6 then
                                        Option.bind (f_X7_mayBeWritten r5.1 r5.2) (fun r6 =>
                                          if r6.1 = (0 : Int32) then
                                            f_X11_truth_72 x0 x1 v3 v4 r6.2
                                          else
                                            if (KH r5.1).1 = 6 then
                                              some (.inr (r6.2.1 r5.1 2), r6.2)
                                            else none
                                          )
                                      else none
                                    )
                                else none
                              else none
                            else none
                          else
                            f_X11_truth_39 v3 σ2
                        )
                    else none
                  else none
                else none
              else none
              )
          else none
        else none
      else none
    else none
    )
set_option maxHeartbeats 4000000 in
set_option maxRecDepth 20000 in
theorem s_X11_truth (x0 : Nat) (x1 : Int32) (σ : eMem) : ∀ r, f_X11_truth x0 x1 σ = some r → Ew false 3 114 [.inr (.inr (x0)), .inl (x1)] (hp σ) (cX iI r) := by
  refine T_meth (md := m_X11_truth) (d0 := 2) (cv := (cX iI)) rfl (lb rfl) (lb rfl) ?_
  unfold f_X11_truth
  show Snd false none _ _ _ _ (0, [(0, .inr (.inr (x0))), (1, .inl (x1))], [], hp σ, 0, 0)
  refine T_go (S' := (1, [(0, .inr (.inr (x0))), (1, .inl (x1))], [.inl (x1)], hp σ, 0, 0)) 1 rfl ?_
  refine T_csx (i := iU) (as := [.inl (x1)]) (rest := []) (st := [.inl (x1)]) rfl rfl (lb rfl) rfl rfl ⟨lb rfl, lb rfl, lb rfl, lb rfl⟩ (fun _ h => Ew_le (lb rfl) (s_X11_needLine x1 σ _ h)) (fun v1 σ2 => ?_)
  show Snd false none _ _ _ (cX iI) (4, [(0, .inr (.inr (x0))), (1, .inl (x1))], [], hp σ2, 1, 6)
  refine T_go (S' := (5, [(0, .inr (.inr (x0))), (1, .inl (x1))], [.inr (.inr (x0))], hp σ2, 1, 6)) 1 rfl ?_
  refine T_getR rfl (fun _ => ?_)
  refine T_getR rfl (fun _ => ?_)
  refine T_go (S' := (12, [(0, .inr (.inr (x0))), (1, .inl (x1))], [.inl (x1), .inr (.inr ((RH (RH x0 2) 0)))], hp σ2, 1, 6)) 1 rfl ?_
  refine T_aald rfl (fun _ => ?_)
  refine T_getI rfl (fun _ => ?_)
  refine T_go (S' := (17, [(2, .inl ((σ2.1 (RH (RH (RH x0 2) 0) x1.toNatClampNeg) 0))), (0, .inr (.inr (x0))), (1, .inl (x1))], [], hp σ2, 1, 6)) 1 rfl ?_
  refine T_let (Sf := fun v3 => (17, [(2, .inl (v3)), (0, .inr (.inr (x0))), (1, .inl (x1))], [], hp σ2, 1, 6)) (fun v3 => ?_)
  refine T_go (S' := (18, [(2, .inl (v3)), (0, .inr (.inr (x0))), (1, .inl (x1))], [.inr (.inr (x0))], hp σ2, 1, 6)) 1 rfl ?_
  refine T_getR rfl (fun _ => ?_)
  refine T_getR rfl (fun _ => ?_)
  refine T_go (S' := (25, [(2, .inl (v3)), (0, .inr (.inr (x0))), (1, .inl (x1))], [.inl (x1), .inr (.inr ((RH (RH x0 2) 0)))], hp σ2, 1, 6)) 1 rfl ?_
  refine T_aald rfl (fun _ => ?_)
  refine T_getI rfl (fun _ => ?_)
  refine T_go (S' := (30, [(3, .inl ((σ2.1 (RH (RH (RH x0 2) 0) x1.toNatClampNeg) 1))), (2, .inl (v3)), (0, .inr (.inr (x0))), (1, .inl (x1))], [], hp σ2, 1, 6)) 1 rfl ?_
  refine T_let (Sf := fun v4 => (30, [(3, .inl (v4)), (2, .inl (v3)), (0, .inr (.inr (x0))), (1, .inl (x1))], [], hp σ2, 1, 6)) (fun v4 => ?_)
  refine T_go (S' := (31, [(3, .inl (v4)), (2, .inl (v3)), (0, .inr (.inr (x0))), (1, .inl (x1))], [.inl (v4)], hp σ2, 1, 6)) 1 rfl ?_
  refine T_if_lt 39 rfl rfl (fun _ => ?_) (fun _ => ?_)
  · refine T_loc (ls' := [(2, .inl (v3))]) [1] rfl ?_
    exact s_X11_truth_39 v3 σ2
  · refine T_go (S' := (36, [(3, .inl (v4)), (2, .inl (v3)), (0, .inr (.inr (x0))), (1, .inl (x1))], [.inl ((4 : Int32)), .inl (v4)], hp σ2, 1, 6)) 2 rfl ?_
    refine T_icmp_lt 41 rfl rfl (fun _ => ?_) (fun _ => ?_)
    · refine T_go (S' := (42, [(3, .inl (v4)), (2, .inl (v3)), (0, .inr (.inr (x0))), (1, .inl (x1))], [.inr (.inr (x0))], hp σ2, 1, 6)) 1 rfl ?_
      refine T_getR rfl (fun _ => ?_)
      refine T_go (S' := (46, [(3, .inl (v4)), (2, .inl (v3)), (0, .inr (.inr (x0))), (1, .inl (x1))], [.inl (v4), .inr (.inr ((RH x0 3)))], hp σ2, 1, 6)) 1 rfl ?_
      refine T_aald rfl (fun _ => ?_)
      refine T_go (S' := (48, [(3, .inl (v4)), (2, .inl (v3)), (0, .inr (.inr (x0))), (1, .inl (x1))], [.inl (x1), .inr (.inr ((RH (RH x0 3) v4.toNatClampNeg)))], hp σ2, 1, 6)) 1 rfl ?_
      refine T_cv (i := iR) (as := [.inr (.inr ((RH (RH x0 3) v4.toNatClampNeg))), .inl (x1)]) (rest := []) (st := [.inl (x1), .inr (.inr ((RH (RH x0 3) v4.toNatClampNeg)))]) rfl rfl rfl ⟨lb rfl, lb rfl, lb rfl, lb rfl⟩ (fun _ h => Ew_le (lb rfl) (s_X0_placeOf (RH (RH x0 3) v4.toNatClampNeg) x1 σ2 _ h)) (fun _ r5 => ?_)
      show Snd false none _ _ _ (cX iI) (51, [(3, .inl (v4)), (2, .inl (v3)), (0, .inr (.inr (x0))), (1, .inl (x1))], [.inr (.inr (r5.1))], hp r5.2, 1, 6)
      refine T_go (S' := (55, [(4, .inr (.inr (r5.1))), (3, .inl (v4)), (2, .inl (v3)), (0, .inr (.inr (x0))), (1, .inl (x1))], [.inr (.inr (r5.1))], hp r5.2, 1, 6)) 2 rfl ?_
      refine T_ifnull 72 rfl rfl (fun _ => ?_) (fun _ => ?_)
      · refine T_loc (ls' := [(0, .inr (.inr (x0))), (1, .inl (x1)), (2, .inl (v3)), (3, .inl (v4))]) [3, 4, 2, 1] rfl ?_
        exact s_X11_truth_72 x0 x1 v3 v4 r5.2
      · refine T_go (S' := (60, [(4, .inr (.inr (r5.1))), (3, .inl (v4)), (2, .inl (v3)), (0, .inr (.inr (x0))), (1, .inl (x1))], [.inr (.inr (r5.1))], hp r5.2, 1, 6)) 1 rfl ?_
        refine T_cv (i := iI) (as := [.inr (.inr (r5.1))]) (rest := []) (st := [.inr (.inr (r5.1))]) rfl rfl rfl ⟨lb rfl, lb rfl, lb rfl, lb rfl⟩ (fun _ h => Ew_le (lb rfl) (s_X7_mayBeWritten r5.1 r5.2 _ h)) (fun _ r6 => ?_)
        show Snd false none _ _ _ (cX iI) (63, [(4, .inr (.inr (r5.1))), (3, .inl (v4)), (2, .inl (v3)), (0, .inr (.inr (x0))), (1, .inl (x1))], [.inl (r6.1)], hp r6.2, 1, 6)
        refine T_if_eq 72 rfl rfl (fun _ => ?_) (fun _ => ?_)
        · refine T_loc (ls' := [(0, .inr (.inr (x0))), (1, .inl (x1)), (2, .inl (v3)), (3, .inl (v4))]) [3, 4, 2, 1] rfl ?_
          exact s_X11_truth_72 x0 x1 v3 v4 r6.2
        · refine T_go (S' := (68, [(4, .inr (.inr (r5.1))), (3, .inl (v4)), (2, .inl (v3)), (0, .inr (.inr (x0))), (1, .inl (x1))], [.inr (.inr (r5.1))], hp r6.2, 1, 6)) 1 rfl ?_
          refine T_getI rfl (fun _ => ?_)
          exact T_ret rfl
    · refine T_loc (ls' := [(2, .inl (v3))]) [1] rfl ?_
      exact s_X11_truth_39 v3 σ2
def f_X11_isLineCoherent_113 (s0 : Int32) (σ : eMem) : Option (Int32 × eMem) :=
  if eB s0 = true then some (s0, σ) else none
set_option maxHeartbeats 4000000 in
set_option maxRecDepth 20000 in
theorem s_X11_isLineCoherent_113 (s0 : Int32) (σ : eMem) : Snd false none 2 m_X11_isLineCoherent (f_X11_isLineCoherent_113 s0 σ) (cN iI) (113, [], [.inl (s0)], hp σ, 0, 0) := by
  unfold f_X11_isLineCoherent_113
  exact T_chkr rfl
def f_X11_isLineCoherent_108  (σ : eMem) : Option (Int32 × eMem) :=
  f_X11_isLineCoherent_113 (1 : Int32) σ
set_option maxHeartbeats 4000000 in
set_option maxRecDepth 20000 in
theorem s_X11_isLineCoherent_108  (σ : eMem) : Snd false none 2 m_X11_isLineCoherent (f_X11_isLineCoherent_108 σ) (cN iI) (108, [], [], hp σ, 0, 0) := by
  unfold f_X11_isLineCoherent_108
  refine T_go (S' := (113, [], [.inl ((1 : Int32))], hp σ, 0, 0)) 2 rfl ?_
  refine T_loc (ls' := []) [] rfl ?_
  exact s_X11_isLineCoherent_113 (1 : Int32) σ
def f_X11_isLineCoherent_L10 : Nat → (Nat × Int32 × Int32 × Int32 × Int32 × Int32 ⊕ (Nat × Int32 × Int32 × Int32 × Int32 × Int32 × Nat ⊕ (Nat × Int32 × Int32 × Int32 × Int32 × Nat ⊕ (Nat × Int32 × Int32 × Int32 × Int32 × Int32)))) → eMem → Option (Int32 × eMem)
  | 0, _, _ => none
  | n + 1, .inl (x0, x1, x2, x3, x4, x5), σ =>
    if (4 : Int32) ≤ x5 then
      if x2 = (0 : Int32) then
        f_X11_isLineCoherent_108  σ
      else
        if ¬ x3 = (1 : Int32) then
          f_X11_isLineCoherent_113 (0 : Int32) σ
        else
          f_X11_isLineCoherent_108  σ
    else
      if (KH x0).1 = 9 then
        if (KH (RH x0 3)).1 = 14 ∧ eix x5 (KH (RH x0 3)).2 = true then
          if (KH (RH (RH x0 3) x5.toNatClampNeg)).1 = 0 then
            Option.bind (f_X0_placeOf (RH (RH x0 3) x5.toNatClampNeg) x1 σ) (fun r1 =>
              if r1.1 = 0 then
                f_X11_isLineCoherent_L10 n (.inr (.inr (.inr ((x0, x1, x2, x3, x4, x5))))) r1.2
              else
                if (KH r1.1).1 = 6 then
                  Option.bind (f_X7_hasValue r1.1 r1.2) (fun r2 =>
                    if ¬ r2.1 = (0 : Int32) then
                      if (KH r1.1).1 = 6 then
                        Option.bind (f_X7_mayBeWritten r1.1 r2.2) (fun r3 =>
                          if r3.1 = (0 : Int32) then
                            f_X11_isLineCoherent_L10 n (.inr (.inl (x0, x1, x2, (x3 + (1 : Int32)), x4, x5, r1.1))) r3.2
                          else
                            f_X11_isLineCoherent_L10 n (.inr (.inl (x0, x1, (x2 + (1 : Int32)), (x3 + (1 : Int32)), x4, x5, r1.1))) r3.2
                          )
                      else none
                    else
                      f_X11_isLineCoherent_L10 n (.inr (.inr (.inr ((x0, x1, x2, x3, x4, x5))))) r2.2
                    )
                else none
              )
          else none
        else none
      else none
  | n + 1, .inr (.inl (x0, x1, x2, x3, x4, x5, x6)), σ =>
    if (KH x6).1 = 6 then
      if (σ.1 x6 1) = (3 : Int32) then
        f_X11_isLineCoherent_L10 n (.inr (.inr (.inr ((x0, x1, x2, x3, x4, x5))))) σ
      else
        if x4 = (-1 : Int32) then
          f_X11_isLineCoherent_L10 n (.inr (.inr (.inl (x0, x1, x2, x3, x5, x6)))) σ
        else
          if (KH x6).1 = 6 then
            if x4 = (σ.1 x6 2) then
              f_X11_isLineCoherent_L10 n (.inr (.inr (.inl (x0, x1, x2, x3, x5, x6)))) σ
            else
              if eB (0 : Int32) = true then some ((0 : Int32), σ) else none
          else none
    else none
  | n + 1, .inr (.inr (.inl (x0, x1, x2, x3, x5, x6))), σ =>
    if (KH x6).1 = 6 then
      eLet ((σ.1 x6 2) : Int32) (fun v1 =>
        f_X11_isLineCoherent_L10 n (.inr (.inr (.inr ((x0, x1, x2, x3, v1, x5))))) σ
        )
    else none
  | n + 1, .inr (.inr (.inr ((x0, x1, x2, x3, x4, x5)))), σ =>
    f_X11_isLineCoherent_L10 n (.inl (x0, x1, x2, x3, x4, (x5 + (1 : Int32)))) σ
set_option maxHeartbeats 4000000 in
set_option maxRecDepth 20000 in
theorem s_X11_isLineCoherent_L10 : ∀ (n : Nat), (∀ (x0 : Nat) (x1 : Int32) (x2 : Int32) (x3 : Int32) (x4 : Int32) (x5 : Int32) (σ : eMem), Snd false none 2 m_X11_isLineCoherent (f_X11_isLineCoherent_L10 n (.inl (x0, x1, x2, x3, x4, x5)) σ) (cN iI) (10, [(0, .inr (.inr (x0))), (1, .inl (x1)), (2, .inl (x2)), (3, .inl (x3)), (4, .inl (x4)), (5, .inl (x5))], [], hp σ, 0, 0)) ∧ (∀ (x0 : Nat) (x1 : Int32) (x2 : Int32) (x3 : Int32) (x4 : Int32) (x5 : Int32) (x6 : Nat) (σ : eMem), Snd false none 2 m_X11_isLineCoherent (f_X11_isLineCoherent_L10 n (.inr (.inl (x0, x1, x2, x3, x4, x5, x6))) σ) (cN iI) (59, [(0, .inr (.inr (x0))), (1, .inl (x1)), (2, .inl (x2)), (3, .inl (x3)), (4, .inl (x4)), (5, .inl (x5)), (6, .inr (.inr (x6)))], [], hp σ, 0, 0)) ∧ (∀ (x0 : Nat) (x1 : Int32) (x2 : Int32) (x3 : Int32) (x5 : Int32) (x6 : Nat) (σ : eMem), Snd false none 2 m_X11_isLineCoherent (f_X11_isLineCoherent_L10 n (.inr (.inr (.inl (x0, x1, x2, x3, x5, x6)))) σ) (cN iI) (86, [(0, .inr (.inr (x0))), (1, .inl (x1)), (2, .inl (x2)), (3, .inl (x3)), (5, .inl (x5)), (6, .inr (.inr (x6)))], [], hp σ, 0, 0)) ∧ (∀ (x0 : Nat) (x1 : Int32) (x2 : Int32) (x3 : Int32) (x4 : Int32) (x5 : Int32) (σ : eMem), Snd false none 2 m_X11_isLineCoherent (f_X11_isLineCoherent_L10 n (.inr (.inr (.inr ((x0, x1, x2, x3, x4, x5))))) σ) (cN iI) (93, [(0, .inr (.inr (x0))), (1, .inl (x1)), (2, .inl (x2)), (3, .inl (x3)), (4, .inl (x4)), (5, .inl (x5))], [], hp σ, 0, 0)) := by
  intro n
  induction n with
  | zero => exact ⟨fun _ _ _ _ _ _ _ => T_none, fun _ _ _ _ _ _ _ _ => T_none, fun _ _ _ _ _ _ _ => T_none, fun _ _ _ _ _ _ _ => T_none⟩
  | succ n ih =>
    refine ⟨?_, ?_, ?_, ?_⟩
    · intro x0 x1 x2 x3 x4 x5 σ
      unfold f_X11_isLineCoherent_L10
      refine T_go (S' := (13, [(0, .inr (.inr (x0))), (1, .inl (x1)), (2, .inl (x2)), (3, .inl (x3)), (4, .inl (x4)), (5, .inl (x5))], [.inl ((4 : Int32)), .inl (x5)], hp σ, 0, 0)) 2 rfl ?_
      refine T_icmp_ge 99 rfl rfl (fun _ => ?_) (fun _ => ?_)
      · refine T_go (S' := (100, [(0, .inr (.inr (x0))), (1, .inl (x1)), (2, .inl (x2)), (3, .inl (x3)), (4, .inl (x4)), (5, .inl (x5))], [.inl (x2)], hp σ, 0, 0)) 1 rfl ?_
        refine T_if_eq 108 rfl rfl (fun _ => ?_) (fun _ => ?_)
        · refine T_loc (ls' := []) [] rfl ?_
          exact s_X11_isLineCoherent_108  σ
        · refine T_go (S' := (105, [(0, .inr (.inr (x0))), (1, .inl (x1)), (2, .inl (x2)), (3, .inl (x3)), (4, .inl (x4)), (5, .inl (x5))], [.inl ((1 : Int32)), .inl (x3)], hp σ, 0, 0)) 2 rfl ?_
          refine T_icmp_ne 112 rfl rfl (fun _ => ?_) (fun _ => ?_)
          · refine T_go (S' := (113, [(0, .inr (.inr (x0))), (1, .inl (x1)), (2, .inl (x2)), (3, .inl (x3)), (4, .inl (x4)), (5, .inl (x5))], [.inl ((0 : Int32))], hp σ, 0, 0)) 1 rfl ?_
            refine T_loc (ls' := []) [] rfl ?_
            exact s_X11_isLineCoherent_113 (0 : Int32) σ
          · refine T_loc (ls' := []) [] rfl ?_
            exact s_X11_isLineCoherent_108  σ
      · refine T_go (S' := (17, [(0, .inr (.inr (x0))), (1, .inl (x1)), (2, .inl (x2)), (3, .inl (x3)), (4, .inl (x4)), (5, .inl (x5))], [.inr (.inr (x0))], hp σ, 0, 0)) 1 rfl ?_
        refine T_getR rfl (fun _ => ?_)
        refine T_go (S' := (22, [(0, .inr (.inr (x0))), (1, .inl (x1)), (2, .inl (x2)), (3, .inl (x3)), (4, .inl (x4)), (5, .inl (x5))], [.inl (x5), .inr (.inr ((RH x0 3)))], hp σ, 0, 0)) 1 rfl ?_
        refine T_aald rfl (fun _ => ?_)
        refine T_go (S' := (24, [(0, .inr (.inr (x0))), (1, .inl (x1)), (2, .inl (x2)), (3, .inl (x3)), (4, .inl (x4)), (5, .inl (x5))], [.inl (x1), .inr (.inr ((RH (RH x0 3) x5.toNatClampNeg)))], hp σ, 0, 0)) 1 rfl ?_
        refine T_cv (i := iR) (as := [.inr (.inr ((RH (RH x0 3) x5.toNatClampNeg))), .inl (x1)]) (rest := []) (st := [.inl (x1), .inr (.inr ((RH (RH x0 3) x5.toNatClampNeg)))]) rfl rfl rfl ⟨lb rfl, lb rfl, lb rfl, lb rfl⟩ (fun _ h => Ew_le (lb rfl) (s_X0_placeOf (RH (RH x0 3) x5.toNatClampNeg) x1 σ _ h)) (fun _ r1 => ?_)
        show Snd false none _ _ _ (cN iI) (27, [(0, .inr (.inr (x0))), (1, .inl (x1)), (2, .inl (x2)), (3, .inl (x3)), (4, .inl (x4)), (5, .inl (x5))], [.inr (.inr (r1.1))], hp r1.2, 0, 0)
        refine T_go (S' := (31, [(6, .inr (.inr (r1.1))), (0, .inr (.inr (x0))), (1, .inl (x1)), (2, .inl (x2)), (3, .inl (x3)), (4, .inl (x4)), (5, .inl (x5))], [.inr (.inr (r1.1))], hp r1.2, 0, 0)) 2 rfl ?_
        refine T_ifnull 93 rfl rfl (fun _ => ?_) (fun _ => ?_)
        · refine T_loc (ls' := [(0, .inr (.inr (x0))), (1, .inl (x1)), (2, .inl (x2)), (3, .inl (x3)), (4, .inl (x4)), (5, .inl (x5))]) [1, 2, 3, 4, 5, 6] rfl ?_
          exact (ih.2.2.2) x0 x1 x2 x3 x4 x5 r1.2
        · refine T_go (S' := (36, [(6, .inr (.inr (r1.1))), (0, .inr (.inr (x0))), (1, .inl (x1)), (2, .inl (x2)), (3, .inl (x3)), (4, .inl (x4)), (5, .inl (x5))], [.inr (.inr (r1.1))], hp r1.2, 0, 0)) 1 rfl ?_
          refine T_cv (i := iI) (as := [.inr (.inr (r1.1))]) (rest := []) (st := [.inr (.inr (r1.1))]) rfl rfl rfl ⟨lb rfl, lb rfl, lb rfl, lb rfl⟩ (fun _ h => Ew_le (lb rfl) (s_X7_hasValue r1.1 r1.2 _ h)) (fun _ r2 => ?_)
          show Snd false none _ _ _ (cN iI) (39, [(6, .inr (.inr (r1.1))), (0, .inr (.inr (x0))), (1, .inl (x1)), (2, .inl (x2)), (3, .inl (x3)), (4, .inl (x4)), (5, .inl (x5))], [.inl (r2.1)], hp r2.2, 0, 0)
          refine T_if_ne 45 rfl rfl (fun _ => ?_) (fun _ => ?_)
          · refine T_go (S' := (50, [(3, .inl ((x3 + (1 : Int32)))), (6, .inr (.inr (r1.1))), (0, .inr (.inr (x0))), (1, .inl (x1)), (2, .inl (x2)), (4, .inl (x4)), (5, .inl (x5))], [.inr (.inr (r1.1))], hp r2.2, 0, 0)) 2 rfl ?_
            refine T_cv (i := iI) (as := [.inr (.inr (r1.1))]) (rest := []) (st := [.inr (.inr (r1.1))]) rfl rfl rfl ⟨lb rfl, lb rfl, lb rfl, lb rfl⟩ (fun _ h => Ew_le (lb rfl) (s_X7_mayBeWritten r1.1 r2.2 _ h)) (fun _ r3 => ?_)
            show Snd false none _ _ _ (cN iI) (53, [(3, .inl ((x3 + (1 : Int32)))), (6, .inr (.inr (r1.1))), (0, .inr (.inr (x0))), (1, .inl (x1)), (2, .inl (x2)), (4, .inl (x4)), (5, .inl (x5))], [.inl (r3.1)], hp r3.2, 0, 0)
            refine T_if_eq 59 rfl rfl (fun _ => ?_) (fun _ => ?_)
            · refine T_loc (ls' := [(0, .inr (.inr (x0))), (1, .inl (x1)), (2, .inl (x2)), (3, .inl ((x3 + (1 : Int32)))), (4, .inl (x4)), (5, .inl (x5)), (6, .inr (.inr (r1.1)))]) [2, 3, 4, 0, 5, 6, 1] rfl ?_
              exact (ih.2.1) x0 x1 x2 (x3 + (1 : Int32)) x4 x5 r1.1 r3.2
            · refine T_go (S' := (59, [(2, .inl ((x2 + (1 : Int32)))), (3, .inl ((x3 + (1 : Int32)))), (6, .inr (.inr (r1.1))), (0, .inr (.inr (x0))), (1, .inl (x1)), (4, .inl (x4)), (5, .inl (x5))], [], hp r3.2, 0, 0)) 1 rfl ?_
              refine T_loc (ls' := [(0, .inr (.inr (x0))), (1, .inl (x1)), (2, .inl ((x2 + (1 : Int32)))), (3, .inl ((x3 + (1 : Int32)))), (4, .inl (x4)), (5, .inl (x5)), (6, .inr (.inr (r1.1)))]) [3, 4, 0, 1, 5, 6, 2] rfl ?_
              exact (ih.2.1) x0 x1 (x2 + (1 : Int32)) (x3 + (1 : Int32)) x4 x5 r1.1 r3.2
          · refine T_go (S' := (93, [(6, .inr (.inr (r1.1))), (0, .inr (.inr (x0))), (1, .inl (x1)), (2, .inl (x2)), (3, .inl (x3)), (4, .inl (x4)), (5, .inl (x5))], [], hp r2.2, 0, 0)) 1 rfl ?_
            refine T_loc (ls' := [(0, .inr (.inr (x0))), (1, .inl (x1)), (2, .inl (x2)), (3, .inl (x3)), (4, .inl (x4)), (5, .inl (x5))]) [1, 2, 3, 4, 5, 6] rfl ?_
            exact (ih.2.2.2) x0 x1 x2 x3 x4 x5 r2.2
    · intro x0 x1 x2 x3 x4 x5 x6 σ
      unfold f_X11_isLineCoherent_L10
      refine T_go (S' := (61, [(0, .inr (.inr (x0))), (1, .inl (x1)), (2, .inl (x2)), (3, .inl (x3)), (4, .inl (x4)), (5, .inl (x5)), (6, .inr (.inr (x6)))], [.inr (.inr (x6))], hp σ, 0, 0)) 1 rfl ?_
      refine T_getI rfl (fun _ => ?_)
      refine T_go (S' := (65, [(0, .inr (.inr (x0))), (1, .inl (x1)), (2, .inl (x2)), (3, .inl (x3)), (4, .inl (x4)), (5, .inl (x5)), (6, .inr (.inr (x6)))], [.inl ((3 : Int32)), .inl ((σ.1 x6 1))], hp σ, 0, 0)) 1 rfl ?_
      refine T_icmp_eq 93 rfl rfl (fun _ => ?_) (fun _ => ?_)
      · refine T_loc (ls' := [(0, .inr (.inr (x0))), (1, .inl (x1)), (2, .inl (x2)), (3, .inl (x3)), (4, .inl (x4)), (5, .inl (x5))]) [0, 1, 2, 3, 4, 5] rfl ?_
        exact (ih.2.2.2) x0 x1 x2 x3 x4 x5 σ
      · refine T_go (S' := (71, [(0, .inr (.inr (x0))), (1, .inl (x1)), (2, .inl (x2)), (3, .inl (x3)), (4, .inl (x4)), (5, .inl (x5)), (6, .inr (.inr (x6)))], [.inl ((-1 : Int32)), .inl (x4)], hp σ, 0, 0)) 2 rfl ?_
        refine T_icmp_eq 86 rfl rfl (fun _ => ?_) (fun _ => ?_)
        · refine T_loc (ls' := [(0, .inr (.inr (x0))), (1, .inl (x1)), (2, .inl (x2)), (3, .inl (x3)), (5, .inl (x5)), (6, .inr (.inr (x6)))]) [0, 1, 2, 3, 5, 6] rfl ?_
          exact (ih.2.2.1) x0 x1 x2 x3 x5 x6 σ
        · refine T_go (S' := (78, [(0, .inr (.inr (x0))), (1, .inl (x1)), (2, .inl (x2)), (3, .inl (x3)), (4, .inl (x4)), (5, .inl (x5)), (6, .inr (.inr (x6)))], [.inr (.inr (x6)), .inl (x4)], hp σ, 0, 0)) 2 rfl ?_
          refine T_getI rfl (fun _ => ?_)
          refine T_icmp_eq 86 rfl rfl (fun _ => ?_) (fun _ => ?_)
          · refine T_loc (ls' := [(0, .inr (.inr (x0))), (1, .inl (x1)), (2, .inl (x2)), (3, .inl (x3)), (5, .inl (x5)), (6, .inr (.inr (x6)))]) [0, 1, 2, 3, 5, 6] rfl ?_
            exact (ih.2.2.1) x0 x1 x2 x3 x5 x6 σ
          · refine T_go (S' := (85, [(0, .inr (.inr (x0))), (1, .inl (x1)), (2, .inl (x2)), (3, .inl (x3)), (4, .inl (x4)), (5, .inl (x5)), (6, .inr (.inr (x6)))], [.inl ((0 : Int32))], hp σ, 0, 0)) 1 rfl ?_
            exact T_chkr rfl
    · intro x0 x1 x2 x3 x5 x6 σ
      unfold f_X11_isLineCoherent_L10
      refine T_go (S' := (88, [(0, .inr (.inr (x0))), (1, .inl (x1)), (2, .inl (x2)), (3, .inl (x3)), (5, .inl (x5)), (6, .inr (.inr (x6)))], [.inr (.inr (x6))], hp σ, 0, 0)) 1 rfl ?_
      refine T_getI rfl (fun _ => ?_)
      refine T_go (S' := (93, [(4, .inl ((σ.1 x6 2))), (0, .inr (.inr (x0))), (1, .inl (x1)), (2, .inl (x2)), (3, .inl (x3)), (5, .inl (x5)), (6, .inr (.inr (x6)))], [], hp σ, 0, 0)) 1 rfl ?_
      refine T_let (Sf := fun v1 => (93, [(4, .inl (v1)), (0, .inr (.inr (x0))), (1, .inl (x1)), (2, .inl (x2)), (3, .inl (x3)), (5, .inl (x5)), (6, .inr (.inr (x6)))], [], hp σ, 0, 0)) (fun v1 => ?_)
      refine T_loc (ls' := [(0, .inr (.inr (x0))), (1, .inl (x1)), (2, .inl (x2)), (3, .inl (x3)), (4, .inl (v1)), (5, .inl (x5))]) [1, 2, 3, 4, 0, 5] rfl ?_
      exact (ih.2.2.2) x0 x1 x2 x3 v1 x5 σ
    · intro x0 x1 x2 x3 x4 x5 σ
      unfold f_X11_isLineCoherent_L10
      refine T_go (S' := (10, [(5, .inl ((x5 + (1 : Int32)))), (0, .inr (.inr (x0))), (1, .inl (x1)), (2, .inl (x2)), (3, .inl (x3)), (4, .inl (x4))], [], hp σ, 0, 0)) 2 rfl ?_
      refine T_loc (ls' := [(0, .inr (.inr (x0))), (1, .inl (x1)), (2, .inl (x2)), (3, .inl (x3)), (4, .inl (x4)), (5, .inl ((x5 + (1 : Int32))))]) [1, 2, 3, 4, 5, 0] rfl ?_
      exact (ih.1) x0 x1 x2 x3 x4 (x5 + (1 : Int32)) σ
def f_X11_isLineCoherent (x0 : Nat) (x1 : Int32) (σ : eMem) : Option (Int32 × eMem) :=
  f_X11_isLineCoherent_L10 1000000 (.inl (x0, x1, (0 : Int32), (0 : Int32), (-1 : Int32), (0 : Int32))) σ
set_option maxHeartbeats 4000000 in
set_option maxRecDepth 20000 in
theorem s_X11_isLineCoherent (x0 : Nat) (x1 : Int32) (σ : eMem) : ∀ r, f_X11_isLineCoherent x0 x1 σ = some r → Ew false 3 128 [.inr (.inr (x0)), .inl (x1)] (hp σ) (cN iI r) := by
  refine T_meth (md := m_X11_isLineCoherent) (d0 := 2) (cv := (cN iI)) rfl (lb rfl) (lb rfl) ?_
  unfold f_X11_isLineCoherent
  show Snd false none _ _ _ _ (0, [(0, .inr (.inr (x0))), (1, .inl (x1))], [], hp σ, 0, 0)
  refine T_go (S' := (10, [(5, .inl ((0 : Int32))), (4, .inl ((-1 : Int32))), (3, .inl ((0 : Int32))), (2, .inl ((0 : Int32))), (0, .inr (.inr (x0))), (1, .inl (x1))], [], hp σ, 0, 0)) 8 rfl ?_
  refine T_loc (ls' := [(0, .inr (.inr (x0))), (1, .inl (x1)), (2, .inl ((0 : Int32))), (3, .inl ((0 : Int32))), (4, .inl ((-1 : Int32))), (5, .inl ((0 : Int32)))]) [4, 5, 3, 2, 1, 0] rfl ?_
  exact (s_X11_isLineCoherent_L10 1000000).1 x0 x1 (0 : Int32) (0 : Int32) (-1 : Int32) (0 : Int32) σ
def f_X11_isCoherent_2 : Nat → Nat → Int32 → eMem → Option (Int32 × eMem)
  | 0, _, _, _ => none
  | n + 1, x0, x1, σ =>
    if (16 : Int32) ≤ x1 then
      if eB (1 : Int32) = true then some ((1 : Int32), σ) else none
    else
      if (KH x0).1 = 9 then
        Option.bind (f_X11_isLineCoherent x0 x1 σ) (fun r1 =>
          if ¬ r1.1 = (0 : Int32) then
            f_X11_isCoherent_2 n x0 (x1 + (1 : Int32)) r1.2
          else
            if eB (0 : Int32) = true then some ((0 : Int32), r1.2) else none
          )
      else none
set_option maxHeartbeats 4000000 in
set_option maxRecDepth 20000 in
theorem s_X11_isCoherent_2 : ∀ (n : Nat) (x0 : Nat) (x1 : Int32) (σ : eMem), Snd false none 3 m_X11_isCoherent (f_X11_isCoherent_2 n x0 x1 σ) (cN iI) (2, [(0, .inr (.inr (x0))), (1, .inl (x1))], [], hp σ, 0, 0) := by
  intro n
  induction n with
  | zero => exact fun _ _ _ => T_none
  | succ n ih =>
    intro x0 x1 σ
    unfold f_X11_isCoherent_2
    refine T_go (S' := (5, [(0, .inr (.inr (x0))), (1, .inl (x1))], [.inl ((16 : Int32)), .inl (x1)], hp σ, 0, 0)) 2 rfl ?_
    refine T_icmp_ge 24 rfl rfl (fun _ => ?_) (fun _ => ?_)
    · refine T_go (S' := (25, [(0, .inr (.inr (x0))), (1, .inl (x1))], [.inl ((1 : Int32))], hp σ, 0, 0)) 1 rfl ?_
      exact T_chkr rfl
    · refine T_go (S' := (10, [(0, .inr (.inr (x0))), (1, .inl (x1))], [.inl (x1), .inr (.inr (x0))], hp σ, 0, 0)) 2 rfl ?_
      refine T_cv (i := iI) (as := [.inr (.inr (x0)), .inl (x1)]) (rest := []) (st := [.inl (x1), .inr (.inr (x0))]) rfl rfl rfl ⟨lb rfl, lb rfl, lb rfl, lb rfl⟩ (fun _ h => Ew_le (lb rfl) (s_X11_isLineCoherent x0 x1 σ _ h)) (fun _ r1 => ?_)
      show Snd false none _ _ _ (cN iI) (13, [(0, .inr (.inr (x0))), (1, .inl (x1))], [.inl (r1.1)], hp r1.2, 0, 0)
      refine T_if_ne 18 rfl rfl (fun _ => ?_) (fun _ => ?_)
      · refine T_go (S' := (2, [(1, .inl ((x1 + (1 : Int32)))), (0, .inr (.inr (x0)))], [], hp r1.2, 0, 0)) 2 rfl ?_
        refine T_loc (ls' := [(0, .inr (.inr (x0))), (1, .inl ((x1 + (1 : Int32))))]) [1, 0] rfl ?_
        exact ih x0 (x1 + (1 : Int32)) r1.2
      · refine T_go (S' := (17, [(0, .inr (.inr (x0))), (1, .inl (x1))], [.inl ((0 : Int32))], hp r1.2, 0, 0)) 1 rfl ?_
        exact T_chkr rfl
def f_X11_isCoherent (x0 : Nat) (σ : eMem) : Option (Int32 × eMem) :=
  f_X11_isCoherent_2 1000000 x0 (0 : Int32) σ
set_option maxHeartbeats 4000000 in
set_option maxRecDepth 20000 in
theorem s_X11_isCoherent (x0 : Nat) (σ : eMem) : ∀ r, f_X11_isCoherent x0 σ = some r → Ew false 4 115 [.inr (.inr (x0))] (hp σ) (cN iI r) := by
  refine T_meth (md := m_X11_isCoherent) (d0 := 3) (cv := (cN iI)) rfl (lb rfl) (lb rfl) ?_
  unfold f_X11_isCoherent
  show Snd false none _ _ _ _ (0, [(0, .inr (.inr (x0)))], [], hp σ, 0, 0)
  refine T_go (S' := (2, [(1, .inl ((0 : Int32))), (0, .inr (.inr (x0)))], [], hp σ, 0, 0)) 2 rfl ?_
  refine T_loc (ls' := [(0, .inr (.inr (x0))), (1, .inl ((0 : Int32)))]) [1, 0] rfl ?_
  exact s_X11_isCoherent_2 1000000 x0 (0 : Int32) σ
def f_X11_counter (x0 : Nat) (x1 : Int32) (σ : eMem) : Option ((Nat ⊕ Int32) × eMem) :=
  eThen (f_X11_needWithin x1 (0 : Int32) (9 : Int32) σ) (fun v1 σ2 =>
    if (KH x0).1 = 9 then
      if (KH (RH x0 0)).1 = 11 ∧ eix x1 (KH (RH x0 0)).2 = true then
        some (.inr (σ2.1 (RH x0 0) x1.toNatClampNeg), σ2)
      else none
    else none
    )
set_option maxHeartbeats 4000000 in
set_option maxRecDepth 20000 in
theorem s_X11_counter (x0 : Nat) (x1 : Int32) (σ : eMem) : ∀ r, f_X11_counter x0 x1 σ = some r → Ew false 2 116 [.inr (.inr (x0)), .inl (x1)] (hp σ) (cX iI r) := by
  refine T_meth (md := m_X11_counter) (d0 := 1) (cv := (cX iI)) rfl (lb rfl) (lb rfl) ?_
  unfold f_X11_counter
  show Snd false none _ _ _ _ (0, [(0, .inr (.inr (x0))), (1, .inl (x1))], [], hp σ, 0, 0)
  refine T_go (S' := (4, [(0, .inr (.inr (x0))), (1, .inl (x1))], [.inl ((9 : Int32)), .inl ((0 : Int32)), .inl (x1)], hp σ, 0, 0)) 3 rfl ?_
  refine T_csx (i := iU) (as := [.inl (x1), .inl ((0 : Int32)), .inl ((9 : Int32))]) (rest := []) (st := [.inl ((9 : Int32)), .inl ((0 : Int32)), .inl (x1)]) rfl rfl (lb rfl) rfl rfl ⟨lb rfl, lb rfl, lb rfl, lb rfl⟩ (fun _ h => Ew_le (lb rfl) (s_X11_needWithin x1 (0 : Int32) (9 : Int32) σ _ h)) (fun v1 σ2 => ?_)
  show Snd false none _ _ _ (cX iI) (7, [(0, .inr (.inr (x0))), (1, .inl (x1))], [], hp σ2, 1, 6)
  refine T_go (S' := (8, [(0, .inr (.inr (x0))), (1, .inl (x1))], [.inr (.inr (x0))], hp σ2, 1, 6)) 1 rfl ?_
  refine T_getR rfl (fun _ => ?_)
  refine T_go (S' := (12, [(0, .inr (.inr (x0))), (1, .inl (x1))], [.inl (x1), .inr (.inr ((RH x0 0)))], hp σ2, 1, 6)) 1 rfl ?_
  refine T_iald rfl (fun _ => ?_)
  exact T_ret rfl
def f_X11_clear (x0 : Nat) (σ : eMem) : Option (Int32 × eMem) :=
  if (KH x0).1 = 9 then
    if (KH (RH x0 5)).1 = 5 then
      Option.bind (f_X6_forget (RH x0 5) σ) (fun r1 =>
        if (KH x0).1 = 9 then
          if (KH (RH x0 6)).1 = 5 then
            Option.bind (f_X6_forget (RH x0 6) r1.2) (fun r2 =>
              if (KH x0).1 = 9 then
                if (KH (RH x0 4)).1 = 7 then
                  Option.bind (f_X8_empty (RH x0 4) r2.2) (fun r3 =>
                    some (r3.1, r3.2)
                    )
                else none
              else none
              )
          else none
        else none
        )
    else none
  else none
set_option maxHeartbeats 4000000 in
set_option maxRecDepth 20000 in
theorem s_X11_clear (x0 : Nat) (σ : eMem) : ∀ r, f_X11_clear x0 σ = some r → Ew false 3 117 [.inr (.inr (x0))] (hp σ) (cN iI r) := by
  refine T_meth (md := m_X11_clear) (d0 := 2) (cv := (cN iI)) rfl (lb rfl) (lb rfl) ?_
  unfold f_X11_clear
  show Snd false none _ _ _ _ (0, [(0, .inr (.inr (x0)))], [], hp σ, 0, 0)
  refine T_go (S' := (1, [(0, .inr (.inr (x0)))], [.inr (.inr (x0))], hp σ, 0, 0)) 1 rfl ?_
  refine T_getR rfl (fun _ => ?_)
  refine T_cv (i := iU) (as := [.inr (.inr ((RH x0 5)))]) (rest := []) (st := [.inr (.inr ((RH x0 5)))]) rfl rfl rfl ⟨lb rfl, lb rfl, lb rfl, lb rfl⟩ (fun _ h => Ew_le (lb rfl) (s_X6_forget (RH x0 5) σ _ h)) (fun _ r1 => ?_)
  show Snd false none _ _ _ (cN iI) (7, [(0, .inr (.inr (x0)))], [], hp r1.2, 0, 0)
  refine T_go (S' := (8, [(0, .inr (.inr (x0)))], [.inr (.inr (x0))], hp r1.2, 0, 0)) 1 rfl ?_
  refine T_getR rfl (fun _ => ?_)
  refine T_cv (i := iU) (as := [.inr (.inr ((RH x0 6)))]) (rest := []) (st := [.inr (.inr ((RH x0 6)))]) rfl rfl rfl ⟨lb rfl, lb rfl, lb rfl, lb rfl⟩ (fun _ h => Ew_le (lb rfl) (s_X6_forget (RH x0 6) r1.2 _ h)) (fun _ r2 => ?_)
  show Snd false none _ _ _ (cN iI) (14, [(0, .inr (.inr (x0)))], [], hp r2.2, 0, 0)
  refine T_go (S' := (15, [(0, .inr (.inr (x0)))], [.inr (.inr (x0))], hp r2.2, 0, 0)) 1 rfl ?_
  refine T_getR rfl (fun _ => ?_)
  refine T_cv (i := iI) (as := [.inr (.inr ((RH x0 4)))]) (rest := []) (st := [.inr (.inr ((RH x0 4)))]) rfl rfl rfl ⟨lb rfl, lb rfl, lb rfl, lb rfl⟩ (fun _ h => Ew_le (lb rfl) (s_X8_empty (RH x0 4) r2.2 _ h)) (fun _ r3 => ?_)
  show Snd false none _ _ _ (cN iI) (21, [(0, .inr (.inr (x0)))], [.inl (r3.1)], hp r3.2, 0, 0)
  exact T_ret rfl
def f_X11_step_94 (s0 : Nat) (s1 : Int32) (s2 : Int32) (s3 : Int32) (s4 : Int32) (σ : eMem) : Option ((Nat ⊕ Int32) × eMem) :=
  if (KH s0).1 = 7 then
    Option.bind (f_X8_append s0 s1 s2 s3 s4 σ) (fun r1 =>
      some (.inr r1.1, r1.2)
      )
  else none
set_option maxHeartbeats 4000000 in
set_option maxRecDepth 20000 in
theorem s_X11_step_94 (c z : Nat) (hc : c ≤ 4) (hz : z ≤ 24) (s0 : Nat) (s1 : Int32) (s2 : Int32) (s3 : Int32) (s4 : Int32) (σ : eMem) : Snd false none 3 m_X11_step (f_X11_step_94 s0 s1 s2 s3 s4 σ) (cX iI) (94, [], [.inl (s4), .inl (s3), .inl (s2), .inl (s1), .inr (.inr (s0))], hp σ, c, z) := by
  unfold f_X11_step_94
  refine T_cv (i := iI) (as := [.inr (.inr (s0)), .inl (s1), .inl (s2), .inl (s3), .inl (s4)]) (rest := []) (st := [.inl (s4), .inl (s3), .inl (s2), .inl (s1), .inr (.inr (s0))]) rfl rfl rfl ⟨by omega, by omega, lb rfl, lb rfl⟩ (fun _ h => Ew_le (lb rfl) (s_X8_append s0 s1 s2 s3 s4 σ _ h)) (fun _ r1 => ?_)
  show Snd false none _ _ _ (cX iI) (97, [], [.inl (r1.1)], hp r1.2, c + 0, z + 0)
  exact T_ret rfl
def f_X11_step_84 (x2 : Int32) (x4 : Int32) (s0 : Nat) (s1 : Int32) (s2 : Int32) (s3 : Int32) (σ : eMem) : Option ((Nat ⊕ Int32) × eMem) :=
  if ¬ x2 = (0 : Int32) then
    f_X11_step_94 s0 s1 s2 s3 (0 : Int32) σ
  else
    f_X11_step_94 s0 s1 s2 s3 x4 σ
set_option maxHeartbeats 4000000 in
set_option maxRecDepth 20000 in
theorem s_X11_step_84 (c z : Nat) (hc : c ≤ 4) (hz : z ≤ 24) (x2 : Int32) (x4 : Int32) (s0 : Nat) (s1 : Int32) (s2 : Int32) (s3 : Int32) (σ : eMem) : Snd false none 3 m_X11_step (f_X11_step_84 x2 x4 s0 s1 s2 s3 σ) (cX iI) (84, [(2, .inl (x2)), (4, .inl (x4))], [.inl (s3), .inl (s2), .inl (s1), .inr (.inr (s0))], hp σ, c, z) := by
  unfold f_X11_step_84
  refine T_go (S' := (85, [(2, .inl (x2)), (4, .inl (x4))], [.inl (x2), .inl (s3), .inl (s2), .inl (s1), .inr (.inr (s0))], hp σ, c, z)) 1 rfl ?_
  refine T_if_ne 93 rfl rfl (fun _ => ?_) (fun _ => ?_)
  · refine T_go (S' := (94, [(2, .inl (x2)), (4, .inl (x4))], [.inl ((0 : Int32)), .inl (s3), .inl (s2), .inl (s1), .inr (.inr (s0))], hp σ, c, z)) 1 rfl ?_
    refine T_loc (ls' := []) [] rfl ?_
    exact s_X11_step_94 (c) (z) (by omega) (by omega) s0 s1 s2 s3 (0 : Int32) σ
  · refine T_go (S' := (94, [(2, .inl (x2)), (4, .inl (x4))], [.inl (x4), .inl (s3), .inl (s2), .inl (s1), .inr (.inr (s0))], hp σ, c, z)) 2 rfl ?_
    refine T_loc (ls' := []) [] rfl ?_
    exact s_X11_step_94 (c) (z) (by omega) (by omega) s0 s1 s2 s3 x4 σ
def f_X11_step_33 (x0 : Nat) (x1 : Int32) (x2 : Int32) (x3 : Int32) (x4 : Int32) (σ : eMem) : Option ((Nat ⊕ Int32) × eMem) :=
  if (KH x0).1 = 9 then
    if (KH (RH x0 4)).1 = 7 then
      Option.bind (f_X8_hasRoom (RH x0 4) x1 σ) (fun r1 =>
        if ¬ r1.1 = (0 : Int32) then
          if (KH x0).1 = 9 then
            if (KH (RH x0 5)).1 = 5 then
              Option.bind (f_X6_forget (RH x0 5) r1.2) (fun r2 =>
                if (KH x0).1 = 9 then
                  if (KH (RH x0 6)).1 = 5 then
                    Option.bind (f_X6_forget (RH x0 6) r2.2) (fun r3 =>
                      if (KH x0).1 = 9 then
                        if ¬ x2 = (2 : Int32) then
                          f_X11_step_84 x2 x4 (RH x0 4) x1 x2 x3 r3.2
                        else
                          f_X11_step_84 x2 x4 (RH x0 4) x1 x2 (0 : Int32) r3.2
                      else none
                      )
                  else none
                else none
                )
            else none
          else none
        else
          some (.inl 2, r1.2)
        )
    else none
  else none
set_option maxHeartbeats 4000000 in
set_option maxRecDepth 20000 in
theorem s_X11_step_33 (c z : Nat) (hc : c ≤ 4) (hz : z ≤ 24) (x0 : Nat) (x1 : Int32) (x2 : Int32) (x3 : Int32) (x4 : Int32) (σ : eMem) : Snd false none 3 m_X11_step (f_X11_step_33 x0 x1 x2 x3 x4 σ) (cX iI) (33, [(0, .inr (.inr (x0))), (1, .inl (x1)), (2, .inl (x2)), (3, .inl (x3)), (4, .inl (x4))], [], hp σ, c, z) := by
  unfold f_X11_step_33
  refine T_go (S' := (34, [(0, .inr (.inr (x0))), (1, .inl (x1)), (2, .inl (x2)), (3, .inl (x3)), (4, .inl (x4))], [.inr (.inr (x0))], hp σ, c, z)) 1 rfl ?_
  refine T_getR rfl (fun _ => ?_)
  refine T_go (S' := (38, [(0, .inr (.inr (x0))), (1, .inl (x1)), (2, .inl (x2)), (3, .inl (x3)), (4, .inl (x4))], [.inl (x1), .inr (.inr ((RH x0 4)))], hp σ, c, z)) 1 rfl ?_
  refine T_cv (i := iI) (as := [.inr (.inr ((RH x0 4))), .inl (x1)]) (rest := []) (st := [.inl (x1), .inr (.inr ((RH x0 4)))]) rfl rfl rfl ⟨by omega, by omega, lb rfl, lb rfl⟩ (fun _ h => Ew_le (lb rfl) (s_X8_hasRoom (RH x0 4) x1 σ _ h)) (fun _ r1 => ?_)
  show Snd false none _ _ _ (cX iI) (41, [(0, .inr (.inr (x0))), (1, .inl (x1)), (2, .inl (x2)), (3, .inl (x3)), (4, .inl (x4))], [.inl (r1.1)], hp r1.2, c + 0, z + 0)
  refine T_if_ne 54 rfl rfl (fun _ => ?_) (fun _ => ?_)
  · refine T_go (S' := (55, [(0, .inr (.inr (x0))), (1, .inl (x1)), (2, .inl (x2)), (3, .inl (x3)), (4, .inl (x4))], [.inr (.inr (x0))], hp r1.2, c + 0, z + 0)) 1 rfl ?_
    refine T_getR rfl (fun _ => ?_)
    refine T_cv (i := iU) (as := [.inr (.inr ((RH x0 5)))]) (rest := []) (st := [.inr (.inr ((RH x0 5)))]) rfl rfl rfl ⟨by omega, by omega, lb rfl, lb rfl⟩ (fun _ h => Ew_le (lb rfl) (s_X6_forget (RH x0 5) r1.2 _ h)) (fun _ r2 => ?_)
    show Snd false none _ _ _ (cX iI) (61, [(0, .inr (.inr (x0))), (1, .inl (x1)), (2, .inl (x2)), (3, .inl (x3)), (4, .inl (x4))], [], hp r2.2, c + 0 + 0, z + 0 + 0)
    refine T_go (S' := (62, [(0, .inr (.inr (x0))), (1, .inl (x1)), (2, .inl (x2)), (3, .inl (x3)), (4, .inl (x4))], [.inr (.inr (x0))], hp r2.2, c + 0 + 0, z + 0 + 0)) 1 rfl ?_
    refine T_getR rfl (fun _ => ?_)
    refine T_cv (i := iU) (as := [.inr (.inr ((RH x0 6)))]) (rest := []) (st := [.inr (.inr ((RH x0 6)))]) rfl rfl rfl ⟨by omega, by omega, lb rfl, lb rfl⟩ (fun _ h => Ew_le (lb rfl) (s_X6_forget (RH x0 6) r2.2 _ h)) (fun _ r3 => ?_)
    show Snd false none _ _ _ (cX iI) (68, [(0, .inr (.inr (x0))), (1, .inl (x1)), (2, .inl (x2)), (3, .inl (x3)), (4, .inl (x4))], [], hp r3.2, c + 0 + 0 + 0, z + 0 + 0 + 0)
    refine T_go (S' := (69, [(0, .inr (.inr (x0))), (1, .inl (x1)), (2, .inl (x2)), (3, .inl (x3)), (4, .inl (x4))], [.inr (.inr (x0))], hp r3.2, c + 0 + 0 + 0, z + 0 + 0 + 0)) 1 rfl ?_
    refine T_getR rfl (fun _ => ?_)
    refine T_go (S' := (76, [(0, .inr (.inr (x0))), (1, .inl (x1)), (2, .inl (x2)), (3, .inl (x3)), (4, .inl (x4))], [.inl ((2 : Int32)), .inl (x2), .inl (x2), .inl (x1), .inr (.inr ((RH x0 4)))], hp r3.2, c + 0 + 0 + 0, z + 0 + 0 + 0)) 4 rfl ?_
    refine T_icmp_ne 83 rfl rfl (fun _ => ?_) (fun _ => ?_)
    · refine T_go (S' := (84, [(0, .inr (.inr (x0))), (1, .inl (x1)), (2, .inl (x2)), (3, .inl (x3)), (4, .inl (x4))], [.inl (x3), .inl (x2), .inl (x1), .inr (.inr ((RH x0 4)))], hp r3.2, c + 0 + 0 + 0, z + 0 + 0 + 0)) 1 rfl ?_
      refine T_loc (ls' := [(2, .inl (x2)), (4, .inl (x4))]) [2, 4] rfl ?_
      exact s_X11_step_84 (c + 0 + 0 + 0) (z + 0 + 0 + 0) (by omega) (by omega) x2 x4 (RH x0 4) x1 x2 x3 r3.2
    · refine T_go (S' := (84, [(0, .inr (.inr (x0))), (1, .inl (x1)), (2, .inl (x2)), (3, .inl (x3)), (4, .inl (x4))], [.inl ((0 : Int32)), .inl (x2), .inl (x1), .inr (.inr ((RH x0 4)))], hp r3.2, c + 0 + 0 + 0, z + 0 + 0 + 0)) 2 rfl ?_
      refine T_loc (ls' := [(2, .inl (x2)), (4, .inl (x4))]) [2, 4] rfl ?_
      exact s_X11_step_84 (c + 0 + 0 + 0) (z + 0 + 0 + 0) (by omega) (by omega) x2 x4 (RH x0 4) x1 x2 (0 : Int32) r3.2
  · exact T_newx rfl ⟨by omega, by omega, lb rfl⟩
def f_X11_step_15 (x0 : Nat) (x1 : Int32) (x2 : Int32) (x3 : Int32) (x4 : Int32) (σ : eMem) : Option ((Nat ⊕ Int32) × eMem) :=
  eThen (f_X11_needWithin x2 (0 : Int32) (3 : Int32) σ) (fun v1 σ2 =>
    if ¬ x2 = (0 : Int32) then
      f_X11_step_33 x0 x1 x2 x3 x4 σ2
    else
      eThen (f_X11_needWithin x4 (1 : Int32) (9 : Int32) σ2) (fun v3 σ4 =>
        f_X11_step_33 x0 x1 x2 x3 x4 σ4
        )
    )
set_option maxHeartbeats 4000000 in
set_option maxRecDepth 20000 in
theorem s_X11_step_15 (c z : Nat) (hc : c ≤ 2) (hz : z ≤ 12) (x0 : Nat) (x1 : Int32) (x2 : Int32) (x3 : Int32) (x4 : Int32) (σ : eMem) : Snd false none 3 m_X11_step (f_X11_step_15 x0 x1 x2 x3 x4 σ) (cX iI) (15, [(0, .inr (.inr (x0))), (1, .inl (x1)), (2, .inl (x2)), (3, .inl (x3)), (4, .inl (x4))], [], hp σ, c, z) := by
  unfold f_X11_step_15
  refine T_go (S' := (18, [(0, .inr (.inr (x0))), (1, .inl (x1)), (2, .inl (x2)), (3, .inl (x3)), (4, .inl (x4))], [.inl ((3 : Int32)), .inl ((0 : Int32)), .inl (x2)], hp σ, c, z)) 3 rfl ?_
  refine T_csx (i := iU) (as := [.inl (x2), .inl ((0 : Int32)), .inl ((3 : Int32))]) (rest := []) (st := [.inl ((3 : Int32)), .inl ((0 : Int32)), .inl (x2)]) rfl rfl (lb rfl) rfl rfl ⟨by omega, by omega, lb rfl, lb rfl⟩ (fun _ h => Ew_le (lb rfl) (s_X11_needWithin x2 (0 : Int32) (3 : Int32) σ _ h)) (fun v1 σ2 => ?_)
  show Snd false none _ _ _ (cX iI) (21, [(0, .inr (.inr (x0))), (1, .inl (x1)), (2, .inl (x2)), (3, .inl (x3)), (4, .inl (x4))], [], hp σ2, c + 1, z + 6)
  refine T_go (S' := (22, [(0, .inr (.inr (x0))), (1, .inl (x1)), (2, .inl (x2)), (3, .inl (x3)), (4, .inl (x4))], [.inl (x2)], hp σ2, c + 1, z + 6)) 1 rfl ?_
  refine T_if_ne 33 rfl rfl (fun _ => ?_) (fun _ => ?_)
  · refine T_loc (ls' := [(0, .inr (.inr (x0))), (1, .inl (x1)), (2, .inl (x2)), (3, .inl (x3)), (4, .inl (x4))]) [0, 1, 2, 3, 4] rfl ?_
    exact s_X11_step_33 (c + 1) (z + 6) (by omega) (by omega) x0 x1 x2 x3 x4 σ2
  · refine T_go (S' := (30, [(0, .inr (.inr (x0))), (1, .inl (x1)), (2, .inl (x2)), (3, .inl (x3)), (4, .inl (x4))], [.inl ((9 : Int32)), .inl ((1 : Int32)), .inl (x4)], hp σ2, c + 1, z + 6)) 3 rfl ?_
    refine T_csx (i := iU) (as := [.inl (x4), .inl ((1 : Int32)), .inl ((9 : Int32))]) (rest := []) (st := [.inl ((9 : Int32)), .inl ((1 : Int32)), .inl (x4)]) rfl rfl (lb rfl) rfl rfl ⟨by omega, by omega, lb rfl, lb rfl⟩ (fun _ h => Ew_le (lb rfl) (s_X11_needWithin x4 (1 : Int32) (9 : Int32) σ2 _ h)) (fun v3 σ4 => ?_)
    show Snd false none _ _ _ (cX iI) (33, [(0, .inr (.inr (x0))), (1, .inl (x1)), (2, .inl (x2)), (3, .inl (x3)), (4, .inl (x4))], [], hp σ4, c + 1 + 1, z + 6 + 6)
    refine T_loc (ls' := [(0, .inr (.inr (x0))), (1, .inl (x1)), (2, .inl (x2)), (3, .inl (x3)), (4, .inl (x4))]) [0, 1, 2, 3, 4] rfl ?_
    exact s_X11_step_33 (c + 1 + 1) (z + 6 + 6) (by omega) (by omega) x0 x1 x2 x3 x4 σ4
def f_X11_step (x0 : Nat) (x1 : Int32) (x2 : Int32) (x3 : Int32) (x4 : Int32) (σ : eMem) : Option ((Nat ⊕ Int32) × eMem) :=
  eThen (f_X11_needIndex x1 (3 : Int32) σ) (fun v1 σ2 =>
    if x2 = (2 : Int32) then
      f_X11_step_15 x0 x1 x2 x3 x4 σ2
    else
      eThen (f_X11_needIndex x3 (3 : Int32) σ2) (fun v3 σ4 =>
        f_X11_step_15 x0 x1 x2 x3 x4 σ4
        )
    )
set_option maxHeartbeats 4000000 in
set_option maxRecDepth 20000 in
theorem s_X11_step (x0 : Nat) (x1 : Int32) (x2 : Int32) (x3 : Int32) (x4 : Int32) (σ : eMem) : ∀ r, f_X11_step x0 x1 x2 x3 x4 σ = some r → Ew false 4 118 [.inr (.inr (x0)), .inl (x1), .inl (x2), .inl (x3), .inl (x4)] (hp σ) (cX iI r) := by
  refine T_meth (md := m_X11_step) (d0 := 3) (cv := (cX iI)) rfl (lb rfl) (lb rfl) ?_
  unfold f_X11_step
  show Snd false none _ _ _ _ (0, [(0, .inr (.inr (x0))), (1, .inl (x1)), (2, .inl (x2)), (3, .inl (x3)), (4, .inl (x4))], [], hp σ, 0, 0)
  refine T_go (S' := (2, [(0, .inr (.inr (x0))), (1, .inl (x1)), (2, .inl (x2)), (3, .inl (x3)), (4, .inl (x4))], [.inl ((3 : Int32)), .inl (x1)], hp σ, 0, 0)) 2 rfl ?_
  refine T_csx (i := iU) (as := [.inl (x1), .inl ((3 : Int32))]) (rest := []) (st := [.inl ((3 : Int32)), .inl (x1)]) rfl rfl (lb rfl) rfl rfl ⟨lb rfl, lb rfl, lb rfl, lb rfl⟩ (fun _ h => Ew_le (lb rfl) (s_X11_needIndex x1 (3 : Int32) σ _ h)) (fun v1 σ2 => ?_)
  show Snd false none _ _ _ (cX iI) (5, [(0, .inr (.inr (x0))), (1, .inl (x1)), (2, .inl (x2)), (3, .inl (x3)), (4, .inl (x4))], [], hp σ2, 1, 6)
  refine T_go (S' := (7, [(0, .inr (.inr (x0))), (1, .inl (x1)), (2, .inl (x2)), (3, .inl (x3)), (4, .inl (x4))], [.inl ((2 : Int32)), .inl (x2)], hp σ2, 1, 6)) 2 rfl ?_
  refine T_icmp_eq 15 rfl rfl (fun _ => ?_) (fun _ => ?_)
  · refine T_loc (ls' := [(0, .inr (.inr (x0))), (1, .inl (x1)), (2, .inl (x2)), (3, .inl (x3)), (4, .inl (x4))]) [0, 1, 2, 3, 4] rfl ?_
    exact s_X11_step_15 (1) (6) (lb rfl) (lb rfl) x0 x1 x2 x3 x4 σ2
  · refine T_go (S' := (12, [(0, .inr (.inr (x0))), (1, .inl (x1)), (2, .inl (x2)), (3, .inl (x3)), (4, .inl (x4))], [.inl ((3 : Int32)), .inl (x3)], hp σ2, 1, 6)) 2 rfl ?_
    refine T_csx (i := iU) (as := [.inl (x3), .inl ((3 : Int32))]) (rest := []) (st := [.inl ((3 : Int32)), .inl (x3)]) rfl rfl (lb rfl) rfl rfl ⟨lb rfl, lb rfl, lb rfl, lb rfl⟩ (fun _ h => Ew_le (lb rfl) (s_X11_needIndex x3 (3 : Int32) σ2 _ h)) (fun v3 σ4 => ?_)
    show Snd false none _ _ _ (cX iI) (15, [(0, .inr (.inr (x0))), (1, .inl (x1)), (2, .inl (x2)), (3, .inl (x3)), (4, .inl (x4))], [], hp σ4, 2, 12)
    refine T_loc (ls' := [(0, .inr (.inr (x0))), (1, .inl (x1)), (2, .inl (x2)), (3, .inl (x3)), (4, .inl (x4))]) [0, 1, 2, 3, 4] rfl ?_
    exact s_X11_step_15 (2) (12) (lb rfl) (lb rfl) x0 x1 x2 x3 x4 σ4
def f_X11_outcomesBy_44 (x2 : Nat) (σ : eMem) : Option (Nat × eMem) :=
  some (x2, σ)
set_option maxHeartbeats 4000000 in
set_option maxRecDepth 20000 in
theorem s_X11_outcomesBy_44 (x2 : Nat) (σ : eMem) : Snd false none 20 m_X11_outcomesBy (f_X11_outcomesBy_44 x2 σ) (cN iR) (44, [(2, .inr (.inr (x2)))], [], hp σ, 0, 0) := by
  unfold f_X11_outcomesBy_44
  refine T_go (S' := (45, [(2, .inr (.inr (x2)))], [.inr (.inr (x2))], hp σ, 0, 0)) 1 rfl ?_
  exact T_ret rfl
def f_X11_outcomesBy_15 (x0 : Nat) (x1 : Int32) (s0 : Nat) (σ : eMem) : Option (Nat × eMem) :=
  if (KH s0).1 = 5 then
    if ¬ (σ.1 s0 2) = (0 : Int32) then
      f_X11_outcomesBy_44 s0 σ
    else
      if (KH s0).1 = 5 then
        Option.bind (f_X6_forget s0 σ) (fun r1 =>
          if (KH x0).1 = 9 then
            Option.bind (f_X9_explore (RH x0 4) s0 x1 (0 : Int64) (0 : Int32) (0 : Int32) r1.2) (fun r2 =>
              if (KH s0).1 = 5 ∧ eB (1 : Int32) = true then eLet ((eup r2.2.1 s0 2 (1 : Int32), r2.2.2) : eMem) (fun σ3 =>
                f_X11_outcomesBy_44 s0 σ3
                ) else none
              )
          else none
          )
      else none
  else none
set_option maxHeartbeats 4000000 in
set_option maxRecDepth 20000 in
theorem s_X11_outcomesBy_15 (x0 : Nat) (x1 : Int32) (s0 : Nat) (σ : eMem) : Snd false none 20 m_X11_outcomesBy (f_X11_outcomesBy_15 x0 x1 s0 σ) (cN iR) (15, [(0, .inr (.inr (x0))), (1, .inl (x1))], [.inr (.inr (s0))], hp σ, 0, 0) := by
  unfold f_X11_outcomesBy_15
  refine T_go (S' := (17, [(2, .inr (.inr (s0))), (0, .inr (.inr (x0))), (1, .inl (x1))], [.inr (.inr (s0))], hp σ, 0, 0)) 2 rfl ?_
  refine T_getI rfl (fun _ => ?_)
  refine T_if_ne 44 rfl rfl (fun _ => ?_) (fun _ => ?_)
  · refine T_loc (ls' := [(2, .inr (.inr (s0)))]) [0] rfl ?_
    exact s_X11_outcomesBy_44 s0 σ
  · refine T_go (S' := (24, [(2, .inr (.inr (s0))), (0, .inr (.inr (x0))), (1, .inl (x1))], [.inr (.inr (s0))], hp σ, 0, 0)) 1 rfl ?_
    refine T_cv (i := iU) (as := [.inr (.inr (s0))]) (rest := []) (st := [.inr (.inr (s0))]) rfl rfl rfl ⟨lb rfl, lb rfl, lb rfl, lb rfl⟩ (fun _ h => Ew_le (lb rfl) (s_X6_forget s0 σ _ h)) (fun _ r1 => ?_)
    show Snd false none _ _ _ (cN iR) (27, [(2, .inr (.inr (s0))), (0, .inr (.inr (x0))), (1, .inl (x1))], [], hp r1.2, 0, 0)
    refine T_go (S' := (28, [(2, .inr (.inr (s0))), (0, .inr (.inr (x0))), (1, .inl (x1))], [.inr (.inr (x0))], hp r1.2, 0, 0)) 1 rfl ?_
    refine T_getR rfl (fun _ => ?_)
    refine T_go (S' := (36, [(2, .inr (.inr (s0))), (0, .inr (.inr (x0))), (1, .inl (x1))], [.inl ((0 : Int32)), .inl ((0 : Int32)), .inr (.inl ((0 : Int64))), .inl (x1), .inr (.inr (s0)), .inr (.inr ((RH x0 4)))], hp r1.2, 0, 0)) 5 rfl ?_
    refine T_cs (i := iU) (as := [.inr (.inr ((RH x0 4))), .inr (.inr (s0)), .inl (x1), .inr (.inl ((0 : Int64))), .inl ((0 : Int32)), .inl ((0 : Int32))]) (rest := []) (st := [.inl ((0 : Int32)), .inl ((0 : Int32)), .inr (.inl ((0 : Int64))), .inl (x1), .inr (.inr (s0)), .inr (.inr ((RH x0 4)))]) rfl (lb rfl) rfl rfl ⟨lb rfl, lb rfl, lb rfl, lb rfl⟩ (fun _ h => Ew_le (lb rfl) (s_X9_explore (RH x0 4) s0 x1 (0 : Int64) (0 : Int32) (0 : Int32) r1.2 _ h)) (fun r2 => ?_)
    show Snd false none _ _ _ (cN iR) (39, [(2, .inr (.inr (s0))), (0, .inr (.inr (x0))), (1, .inl (x1))], [], hp r2.2, 0, 0)
    refine T_go (S' := (41, [(2, .inr (.inr (s0))), (0, .inr (.inr (x0))), (1, .inl (x1))], [.inl ((1 : Int32)), .inr (.inr (s0))], hp r2.2, 0, 0)) 2 rfl ?_
    refine T_putZ rfl (fun _ => ?_)
    refine T_let (Sf := fun σ3 => (44, [(2, .inr (.inr (s0))), (0, .inr (.inr (x0))), (1, .inl (x1))], [], hp σ3, 0, 0)) (fun σ3 => ?_)
    refine T_loc (ls' := [(2, .inr (.inr (s0)))]) [0] rfl ?_
    exact s_X11_outcomesBy_44 s0 σ3
def f_X11_outcomesBy (x0 : Nat) (x1 : Int32) (σ : eMem) : Option (Nat × eMem) :=
  if ¬ x1 = (0 : Int32) then
    if (KH x0).1 = 9 then
      f_X11_outcomesBy_15 x0 x1 (RH x0 6) σ
    else none
  else
    if (KH x0).1 = 9 then
      f_X11_outcomesBy_15 x0 x1 (RH x0 5) σ
    else none
set_option maxHeartbeats 4000000 in
set_option maxRecDepth 20000 in
theorem s_X11_outcomesBy (x0 : Nat) (x1 : Int32) (σ : eMem) : ∀ r, f_X11_outcomesBy x0 x1 σ = some r → Ew false 21 129 [.inr (.inr (x0)), .inl (x1)] (hp σ) (cN iR r) := by
  refine T_meth (md := m_X11_outcomesBy) (d0 := 20) (cv := (cN iR)) rfl (lb rfl) (lb rfl) ?_
  unfold f_X11_outcomesBy
  show Snd false none _ _ _ _ (0, [(0, .inr (.inr (x0))), (1, .inl (x1))], [], hp σ, 0, 0)
  refine T_go (S' := (1, [(0, .inr (.inr (x0))), (1, .inl (x1))], [.inl (x1)], hp σ, 0, 0)) 1 rfl ?_
  refine T_if_ne 11 rfl rfl (fun _ => ?_) (fun _ => ?_)
  · refine T_go (S' := (12, [(0, .inr (.inr (x0))), (1, .inl (x1))], [.inr (.inr (x0))], hp σ, 0, 0)) 1 rfl ?_
    refine T_getR rfl (fun _ => ?_)
    refine T_loc (ls' := [(0, .inr (.inr (x0))), (1, .inl (x1))]) [0, 1] rfl ?_
    exact s_X11_outcomesBy_15 x0 x1 (RH x0 6) σ
  · refine T_go (S' := (5, [(0, .inr (.inr (x0))), (1, .inl (x1))], [.inr (.inr (x0))], hp σ, 0, 0)) 1 rfl ?_
    refine T_getR rfl (fun _ => ?_)
    refine T_go (S' := (15, [(0, .inr (.inr (x0))), (1, .inl (x1))], [.inr (.inr ((RH x0 5)))], hp σ, 0, 0)) 1 rfl ?_
    refine T_loc (ls' := [(0, .inr (.inr (x0))), (1, .inl (x1))]) [0, 1] rfl ?_
    exact s_X11_outcomesBy_15 x0 x1 (RH x0 5) σ
