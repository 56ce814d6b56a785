/-! what the methods do -/
def f_X12_pump_L29 : Nat → (Nat × Int32 × Int32 × Int32 ⊕ (Nat × Int32 × Int32 × Int32 × Int32 ⊕ (Nat × Int32 × Int32 × Int32 × Int32 × Int32 ⊕ (Nat × Int32 × Int32 × Int32 × Int32 × Int32 × Int32 ⊕ (Nat × Int32 × Int32 × Int32 × Int32 × Int32 × Int32 ⊕ (Nat × Int32 × Int32 × Int32 × Int32 × Int32 × Int32)))))) → eMem → Option (Int32 × eMem)
  | 0, _, _ => none
  | n + 1, .inl (x0, x1, x2, x3), σ =>
    if x1 ≤ x3 then
      some (x2, σ)
    else
      f_X12_pump_L29 n (.inr (.inl (x0, x1, x2, x3, (2 : Int32)))) σ
  | n + 1, .inr (.inl (x0, x1, x2, x3, x4)), σ =>
    if x4 < (0 : Int32) then
      f_X12_pump_L29 n (.inl (x0, x1, x2, (x3 + (1 : Int32)))) σ
    else
      f_X12_pump_L29 n (.inr (.inr (.inl (x0, x1, x2, x3, x4, (0 : Int32))))) σ
  | n + 1, .inr (.inr (.inl (x0, x1, x2, x3, x4, x5))), σ =>
    if (4 : Int32) < x5 then
      f_X12_pump_L29 n (.inr (.inl (x0, x1, x2, x3, (x4 + (-1 : Int32))))) σ
    else
      if (KH x0).1 = 10 then
        if (KH (RH x0 10)).1 = 11 ∧ eix (((5 : Int32) * x4) + x5) (KH (RH x0 10)).2 = true then
          if (σ.1 (RH x0 10) (((5 : Int32) * x4) + x5).toNatClampNeg) ≤ (0 : Int32) then
            f_X12_pump_L29 n (.inr (.inr (.inr (.inl (x0, x1, x2, x3, x4, x5, (0 : Int32)))))) σ
          else
            f_X12_pump_L29 n (.inr (.inr (.inr (.inl (x0, x1, x2, x3, x4, x5, (1 : Int32)))))) σ
        else none
      else none
  | n + 1, .inr (.inr (.inr (.inl (x0, x1, x2, x3, x4, x5, s0)))), σ =>
    if s0 = (0 : Int32) then
      f_X12_pump_L29 n (.inr (.inr (.inr (.inr (.inl (x0, x1, x2, x3, x4, x5, (-1 : Int32))))))) σ
    else
      if (KH x0).1 = 10 then
        Option.bind (f_X12_delivers x0 x4 x5 σ) (fun r1 =>
          f_X12_pump_L29 n (.inr (.inr (.inr (.inr (.inl (x0, x1, x2, x3, x4, x5, r1.1)))))) r1.2
          )
      else none
  | n + 1, .inr (.inr (.inr (.inr (.inl (x0, x1, x2, x3, x4, x5, s0))))), σ =>
    if s0 < (0 : Int32) then
      f_X12_pump_L29 n (.inr (.inr (.inr (.inr (.inr ((x0, x1, x3, x4, x5, x2, (0 : Int32)))))))) σ
    else
      f_X12_pump_L29 n (.inr (.inr (.inr (.inr (.inr ((x0, x1, x3, x4, x5, x2, (1 : Int32)))))))) σ
  | n + 1, .inr (.inr (.inr (.inr (.inr ((x0, x1, x3, x4, x5, s0, s1)))))), σ =>
    eLet ((s0 + s1) : Int32) (fun v1 =>
      f_X12_pump_L29 n (.inr (.inr (.inl (x0, x1, v1, x3, x4, (x5 + (1 : Int32)))))) σ
      )
set_option maxHeartbeats 4000000 in
set_option maxRecDepth 20000 in
theorem s_X12_pump_L29 : ∀ (n : Nat), (∀ (x0 : Nat) (x1 : Int32) (x2 : Int32) (x3 : Int32) (σ : eMem), Snd false none 7 m_X12_pump (f_X12_pump_L29 n (.inl (x0, x1, x2, x3)) σ) (cN iI) (29, [(0, .inr (.inr (x0))), (1, .inl (x1)), (2, .inl (x2)), (3, .inl (x3))], [], hp σ, 0, 0)) ∧ (∀ (x0 : Nat) (x1 : Int32) (x2 : Int32) (x3 : Int32) (x4 : Int32) (σ : eMem), Snd false none 7 m_X12_pump (f_X12_pump_L29 n (.inr (.inl (x0, x1, x2, x3, x4))) σ) (cN iI) (37, [(0, .inr (.inr (x0))), (1, .inl (x1)), (2, .inl (x2)), (3, .inl (x3)), (4, .inl (x4))], [], hp σ, 0, 0)) ∧ (∀ (x0 : Nat) (x1 : Int32) (x2 : Int32) (x3 : Int32) (x4 : Int32) (x5 : Int32) (σ : eMem), Snd false none 7 m_X12_pump (f_X12_pump_L29 n (.inr (.inr (.inl (x0, x1, x2, x3, x4, x5)))) σ) (cN iI) (45, [(0, .inr (.inr (x0))), (1, .inl (x1)), (2, .inl (x2)), (3, .inl (x3)), (4, .inl (x4)), (5, .inl (x5))], [], hp σ, 0, 0)) ∧ (∀ (x0 : Nat) (x1 : Int32) (x2 : Int32) (x3 : Int32) (x4 : Int32) (x5 : Int32) (s0 : Int32) (σ : eMem), Snd false none 7 m_X12_pump (f_X12_pump_L29 n (.inr (.inr (.inr (.inl (x0, x1, x2, x3, x4, x5, s0))))) σ) (cN iI) (71, [(0, .inr (.inr (x0))), (1, .inl (x1)), (2, .inl (x2)), (3, .inl (x3)), (4, .inl (x4)), (5, .inl (x5))], [.inl (s0)], hp σ, 0, 0)) ∧ (∀ (x0 : Nat) (x1 : Int32) (x2 : Int32) (x3 : Int32) (x4 : Int32) (x5 : Int32) (s0 : Int32) (σ : eMem), Snd false none 7 m_X12_pump (f_X12_pump_L29 n (.inr (.inr (.inr (.inr (.inl (x0, x1, x2, x3, x4, x5, s0)))))) σ) (cN iI) (90, [(0, .inr (.inr (x0))), (1, .inl (x1)), (2, .inl (x2)), (3, .inl (x3)), (4, .inl (x4)), (5, .inl (x5))], [.inl (s0)], hp σ, 0, 0)) ∧ (∀ (x0 : Nat) (x1 : Int32) (x3 : Int32) (x4 : Int32) (x5 : Int32) (s0 : Int32) (s1 : Int32) (σ : eMem), Snd false none 7 m_X12_pump (f_X12_pump_L29 n (.inr (.inr (.inr (.inr (.inr ((x0, x1, x3, x4, x5, s0, s1))))))) σ) (cN iI) (103, [(0, .inr (.inr (x0))), (1, .inl (x1)), (3, .inl (x3)), (4, .inl (x4)), (5, .inl (x5))], [.inl (s1), .inl (s0)], hp σ, 0, 0)) := by
  intro n
  induction n with
  | zero => exact ⟨fun _ _ _ _ _ => T_none, fun _ _ _ _ _ _ => T_none, fun _ _ _ _ _ _ _ => T_none, fun _ _ _ _ _ _ _ _ => T_none, fun _ _ _ _ _ _ _ _ => T_none, fun _ _ _ _ _ _ _ _ => T_none⟩
  | succ n ih =>
    refine ⟨?_, ?_, ?_, ?_, ?_, ?_⟩
    · intro x0 x1 x2 x3 σ
      unfold f_X12_pump_L29
      refine T_go (S' := (31, [(0, .inr (.inr (x0))), (1, .inl (x1)), (2, .inl (x2)), (3, .inl (x3))], [.inl (x1), .inl (x3)], hp σ, 0, 0)) 2 rfl ?_
      refine T_icmp_ge 123 rfl rfl (fun _ => ?_) (fun _ => ?_)
      · refine T_go (S' := (124, [(0, .inr (.inr (x0))), (1, .inl (x1)), (2, .inl (x2)), (3, .inl (x3))], [.inl (x2)], hp σ, 0, 0)) 1 rfl ?_
        exact T_ret rfl
      · refine T_go (S' := (37, [(4, .inl ((2 : Int32))), (0, .inr (.inr (x0))), (1, .inl (x1)), (2, .inl (x2)), (3, .inl (x3))], [], hp σ, 0, 0)) 2 rfl ?_
        refine T_loc (ls' := [(0, .inr (.inr (x0))), (1, .inl (x1)), (2, .inl (x2)), (3, .inl (x3)), (4, .inl ((2 : Int32)))]) [1, 2, 3, 4, 0] rfl ?_
        exact (ih.2.1) x0 x1 x2 x3 (2 : Int32) σ
    · intro x0 x1 x2 x3 x4 σ
      unfold f_X12_pump_L29
      refine T_go (S' := (39, [(0, .inr (.inr (x0))), (1, .inl (x1)), (2, .inl (x2)), (3, .inl (x3)), (4, .inl (x4))], [.inl (x4)], hp σ, 0, 0)) 1 rfl ?_
      refine T_if_lt 117 rfl rfl (fun _ => ?_) (fun _ => ?_)
      · refine T_go (S' := (29, [(3, .inl ((x3 + (1 : Int32)))), (0, .inr (.inr (x0))), (1, .inl (x1)), (2, .inl (x2)), (4, .inl (x4))], [], hp σ, 0, 0)) 2 rfl ?_
        refine T_loc (ls' := [(0, .inr (.inr (x0))), (1, .inl (x1)), (2, .inl (x2)), (3, .inl ((x3 + (1 : Int32))))]) [1, 2, 3, 0] rfl ?_
        exact (ih.1) x0 x1 x2 (x3 + (1 : Int32)) σ
      · refine T_go (S' := (45, [(5, .inl ((0 : Int32))), (0, .inr (.inr (x0))), (1, .inl (x1)), (2, .inl (x2)), (3, .inl (x3)), (4, .inl (x4))], [], hp σ, 0, 0)) 2 rfl ?_
        refine T_loc (ls' := [(0, .inr (.inr (x0))), (1, .inl (x1)), (2, .inl (x2)), (3, .inl (x3)), (4, .inl (x4)), (5, .inl ((0 : Int32)))]) [1, 2, 3, 4, 5, 0] rfl ?_
        exact (ih.2.2.1) x0 x1 x2 x3 x4 (0 : Int32) σ
    · intro x0 x1 x2 x3 x4 x5 σ
      unfold f_X12_pump_L29
      refine T_go (S' := (48, [(0, .inr (.inr (x0))), (1, .inl (x1)), (2, .inl (x2)), (3, .inl (x3)), (4, .inl (x4)), (5, .inl (x5))], [.inl ((4 : Int32)), .inl (x5)], hp σ, 0, 0)) 2 rfl ?_
      refine T_icmp_gt 111 rfl rfl (fun _ => ?_) (fun _ => ?_)
      · refine T_go (S' := (37, [(4, .inl ((x4 + (-1 : Int32)))), (0, .inr (.inr (x0))), (1, .inl (x1)), (2, .inl (x2)), (3, .inl (x3)), (5, .inl (x5))], [], hp σ, 0, 0)) 2 rfl ?_
        refine T_loc (ls' := [(0, .inr (.inr (x0))), (1, .inl (x1)), (2, .inl (x2)), (3, .inl (x3)), (4, .inl ((x4 + (-1 : Int32))))]) [1, 2, 3, 4, 0] rfl ?_
        exact (ih.2.1) x0 x1 x2 x3 (x4 + (-1 : Int32)) σ
      · refine T_go (S' := (52, [(0, .inr (.inr (x0))), (1, .inl (x1)), (2, .inl (x2)), (3, .inl (x3)), (4, .inl (x4)), (5, .inl (x5))], [.inr (.inr (x0))], hp σ, 0, 0)) 1 rfl ?_
        refine T_getR rfl (fun _ => ?_)
        refine T_go (S' := (62, [(0, .inr (.inr (x0))), (1, .inl (x1)), (2, .inl (x2)), (3, .inl (x3)), (4, .inl (x4)), (5, .inl (x5))], [.inl ((((5 : Int32) * x4) + x5)), .inr (.inr ((RH x0 10)))], hp σ, 0, 0)) 5 rfl ?_
        refine T_iald rfl (fun _ => ?_)
        refine T_if_le 70 rfl rfl (fun _ => ?_) (fun _ => ?_)
        · refine T_go (S' := (71, [(0, .inr (.inr (x0))), (1, .inl (x1)), (2, .inl (x2)), (3, .inl (x3)), (4, .inl (x4)), (5, .inl (x5))], [.inl ((0 : Int32))], hp σ, 0, 0)) 1 rfl ?_
          refine T_loc (ls' := [(0, .inr (.inr (x0))), (1, .inl (x1)), (2, .inl (x2)), (3, .inl (x3)), (4, .inl (x4)), (5, .inl (x5))]) [0, 1, 2, 3, 4, 5] rfl ?_
          exact (ih.2.2.2.1) x0 x1 x2 x3 x4 x5 (0 : Int32) σ
        · refine T_go (S' := (71, [(0, .inr (.inr (x0))), (1, .inl (x1)), (2, .inl (x2)), (3, .inl (x3)), (4, .inl (x4)), (5, .inl (x5))], [.inl ((1 : Int32))], hp σ, 0, 0)) 2 rfl ?_
          refine T_loc (ls' := [(0, .inr (.inr (x0))), (1, .inl (x1)), (2, .inl (x2)), (3, .inl (x3)), (4, .inl (x4)), (5, .inl (x5))]) [0, 1, 2, 3, 4, 5] rfl ?_
          exact (ih.2.2.2.1) x0 x1 x2 x3 x4 x5 (1 : Int32) σ
    · intro x0 x1 x2 x3 x4 x5 s0 σ
      unfold f_X12_pump_L29
      refine T_go (S' := (75, [(6, .inl (s0)), (0, .inr (.inr (x0))), (1, .inl (x1)), (2, .inl (x2)), (3, .inl (x3)), (4, .inl (x4)), (5, .inl (x5))], [.inl (s0)], hp σ, 0, 0)) 2 rfl ?_
      refine T_if_eq 89 rfl rfl (fun _ => ?_) (fun _ => ?_)
      · refine T_go (S' := (90, [(6, .inl (s0)), (0, .inr (.inr (x0))), (1, .inl (x1)), (2, .inl (x2)), (3, .inl (x3)), (4, .inl (x4)), (5, .inl (x5))], [.inl ((-1 : Int32))], hp σ, 0, 0)) 1 rfl ?_
        refine T_loc (ls' := [(0, .inr (.inr (x0))), (1, .inl (x1)), (2, .inl (x2)), (3, .inl (x3)), (4, .inl (x4)), (5, .inl (x5))]) [1, 2, 3, 4, 5, 6] rfl ?_
        exact (ih.2.2.2.2.1) x0 x1 x2 x3 x4 x5 (-1 : Int32) σ
      · refine T_go (S' := (83, [(6, .inl (s0)), (0, .inr (.inr (x0))), (1, .inl (x1)), (2, .inl (x2)), (3, .inl (x3)), (4, .inl (x4)), (5, .inl (x5))], [.inl (x5), .inl (x4), .inr (.inr (x0))], hp σ, 0, 0)) 3 rfl ?_
        refine T_cv (i := iI) (as := [.inr (.inr (x0)), .inl (x4), .inl (x5)]) (rest := []) (st := [.inl (x5), .inl (x4), .inr (.inr (x0))]) rfl rfl rfl ⟨lb rfl, lb rfl, lb rfl, lb rfl⟩ (fun _ h => Ew_le (lb rfl) (s_X12_delivers x0 x4 x5 σ _ h)) (fun _ r1 => ?_)
        show Snd false none _ _ _ (cN iI) (86, [(6, .inl (s0)), (0, .inr (.inr (x0))), (1, .inl (x1)), (2, .inl (x2)), (3, .inl (x3)), (4, .inl (x4)), (5, .inl (x5))], [.inl (r1.1)], hp r1.2, 0, 0)
        refine T_go (S' := (90, [(6, .inl (s0)), (0, .inr (.inr (x0))), (1, .inl (x1)), (2, .inl (x2)), (3, .inl (x3)), (4, .inl (x4)), (5, .inl (x5))], [.inl (r1.1)], hp r1.2, 0, 0)) 1 rfl ?_
        refine T_loc (ls' := [(0, .inr (.inr (x0))), (1, .inl (x1)), (2, .inl (x2)), (3, .inl (x3)), (4, .inl (x4)), (5, .inl (x5))]) [1, 2, 3, 4, 5, 6] rfl ?_
        exact (ih.2.2.2.2.1) x0 x1 x2 x3 x4 x5 r1.1 r1.2
    · intro x0 x1 x2 x3 x4 x5 s0 σ
      unfold f_X12_pump_L29
      refine T_go (S' := (95, [(7, .inl (s0)), (0, .inr (.inr (x0))), (1, .inl (x1)), (2, .inl (x2)), (3, .inl (x3)), (4, .inl (x4)), (5, .inl (x5))], [.inl (s0), .inl (x2)], hp σ, 0, 0)) 3 rfl ?_
      refine T_if_lt 102 rfl rfl (fun _ => ?_) (fun _ => ?_)
      · refine T_go (S' := (103, [(7, .inl (s0)), (0, .inr (.inr (x0))), (1, .inl (x1)), (2, .inl (x2)), (3, .inl (x3)), (4, .inl (x4)), (5, .inl (x5))], [.inl ((0 : Int32)), .inl (x2)], hp σ, 0, 0)) 1 rfl ?_
        refine T_loc (ls' := [(0, .inr (.inr (x0))), (1, .inl (x1)), (3, .inl (x3)), (4, .inl (x4)), (5, .inl (x5))]) [1, 2, 4, 5, 6] rfl ?_
        exact (ih.2.2.2.2.2) x0 x1 x3 x4 x5 x2 (0 : Int32) σ
      · refine T_go (S' := (103, [(7, .inl (s0)), (0, .inr (.inr (x0))), (1, .inl (x1)), (2, .inl (x2)), (3, .inl (x3)), (4, .inl (x4)), (5, .inl (x5))], [.inl ((1 : Int32)), .inl (x2)], hp σ, 0, 0)) 2 rfl ?_
        refine T_loc (ls' := [(0, .inr (.inr (x0))), (1, .inl (x1)), (3, .inl (x3)), (4, .inl (x4)), (5, .inl (x5))]) [1, 2, 4, 5, 6] rfl ?_
        exact (ih.2.2.2.2.2) x0 x1 x3 x4 x5 x2 (1 : Int32) σ
    · intro x0 x1 x3 x4 x5 s0 s1 σ
      unfold f_X12_pump_L29
      refine T_go (S' := (105, [(2, .inl ((s0 + s1))), (0, .inr (.inr (x0))), (1, .inl (x1)), (3, .inl (x3)), (4, .inl (x4)), (5, .inl (x5))], [], hp σ, 0, 0)) 2 rfl ?_
      refine T_let (Sf := fun v1 => (105, [(2, .inl (v1)), (0, .inr (.inr (x0))), (1, .inl (x1)), (3, .inl (x3)), (4, .inl (x4)), (5, .inl (x5))], [], hp σ, 0, 0)) (fun v1 => ?_)
      refine T_go (S' := (45, [(5, .inl ((x5 + (1 : Int32)))), (2, .inl (v1)), (0, .inr (.inr (x0))), (1, .inl (x1)), (3, .inl (x3)), (4, .inl (x4))], [], hp σ, 0, 0)) 2 rfl ?_
      refine T_loc (ls' := [(0, .inr (.inr (x0))), (1, .inl (x1)), (2, .inl (v1)), (3, .inl (x3)), (4, .inl (x4)), (5, .inl ((x5 + (1 : Int32))))]) [2, 3, 1, 4, 5, 0] rfl ?_
      exact (ih.2.2.1) x0 x1 v1 x3 x4 (x5 + (1 : Int32)) σ
def f_X12_pump_17 (x0 : Nat) (x1 : Int32) (s0 : Nat) (s1 : Int32) (σ : eMem) : Option (Int32 × eMem) :=
  if (KH s0).1 = 10 then
    Option.bind (f_X12_asks s0 s1 σ) (fun r1 =>
      if ¬ r1.1 = (0 : Int32) then
        f_X12_pump_L29 1000000 (.inl (x0, x1, (0 : Int32), (0 : Int32))) r1.2
      else
        some ((0 : Int32), r1.2)
      )
  else none
set_option maxHeartbeats 4000000 in
set_option maxRecDepth 20000 in
theorem s_X12_pump_17 (x0 : Nat) (x1 : Int32) (s0 : Nat) (s1 : Int32) (σ : eMem) : Snd false none 7 m_X12_pump (f_X12_pump_17 x0 x1 s0 s1 σ) (cN iI) (17, [(0, .inr (.inr (x0))), (1, .inl (x1))], [.inl (s1), .inr (.inr (s0))], hp σ, 0, 0) := by
  unfold f_X12_pump_17
  refine T_cv (i := iI) (as := [.inr (.inr (s0)), .inl (s1)]) (rest := []) (st := [.inl (s1), .inr (.inr (s0))]) rfl rfl rfl ⟨lb rfl, lb rfl, lb rfl, lb rfl⟩ (fun _ h => Ew_le (lb rfl) (s_X12_asks s0 s1 σ _ h)) (fun _ r1 => ?_)
  show Snd false none _ _ _ (cN iI) (20, [(0, .inr (.inr (x0))), (1, .inl (x1))], [.inl (r1.1)], hp r1.2, 0, 0)
  refine T_if_ne 25 rfl rfl (fun _ => ?_) (fun _ => ?_)
  · refine T_go (S' := (29, [(3, .inl ((0 : Int32))), (2, .inl ((0 : Int32))), (0, .inr (.inr (x0))), (1, .inl (x1))], [], hp r1.2, 0, 0)) 4 rfl ?_
    refine T_loc (ls' := [(0, .inr (.inr (x0))), (1, .inl (x1)), (2, .inl ((0 : Int32))), (3, .inl ((0 : Int32)))]) [2, 3, 1, 0] rfl ?_
    exact (s_X12_pump_L29 1000000).1 x0 x1 (0 : Int32) (0 : Int32) r1.2
  · refine T_go (S' := (24, [(0, .inr (.inr (x0))), (1, .inl (x1))], [.inl ((0 : Int32))], hp r1.2, 0, 0)) 1 rfl ?_
    exact T_ret rfl
def f_X12_pump_16 (x0 : Nat) (x1 : Int32) (s0 : Nat) (σ : eMem) : Option (Int32 × eMem) :=
  f_X12_pump_17 x0 x1 s0 (0 : Int32) σ
set_option maxHeartbeats 4000000 in
set_option maxRecDepth 20000 in
theorem s_X12_pump_16 (x0 : Nat) (x1 : Int32) (s0 : Nat) (σ : eMem) : Snd false none 7 m_X12_pump (f_X12_pump_16 x0 x1 s0 σ) (cN iI) (16, [(0, .inr (.inr (x0))), (1, .inl (x1))], [.inr (.inr (s0))], hp σ, 0, 0) := by
  unfold f_X12_pump_16
  refine T_go (S' := (17, [(0, .inr (.inr (x0))), (1, .inl (x1))], [.inl ((0 : Int32)), .inr (.inr (s0))], hp σ, 0, 0)) 1 rfl ?_
  refine T_loc (ls' := [(0, .inr (.inr (x0))), (1, .inl (x1))]) [0, 1] rfl ?_
  exact s_X12_pump_17 x0 x1 s0 (0 : Int32) σ
def f_X12_pump (x0 : Nat) (x1 : Int32) (σ : eMem) : Option (Int32 × eMem) :=
  if x1 < (1 : Int32) then
    f_X12_pump_16 x0 x1 x0 σ
  else
    if (20 : Int32) < x1 then
      f_X12_pump_16 x0 x1 x0 σ
    else
      f_X12_pump_17 x0 x1 x0 (1 : Int32) σ
set_option maxHeartbeats 4000000 in
set_option maxRecDepth 20000 in
theorem s_X12_pump (x0 : Nat) (x1 : Int32) (σ : eMem) : ∀ r, f_X12_pump x0 x1 σ = some r → Ew false 8 176 [.inr (.inr (x0)), .inl (x1)] (hp σ) (cN iI r) := by
  refine T_meth (md := m_X12_pump) (d0 := 7) (cv := (cN iI)) rfl (lb rfl) (lb rfl) ?_
  unfold f_X12_pump
  show Snd false none _ _ _ _ (0, [(0, .inr (.inr (x0))), (1, .inl (x1))], [], hp σ, 0, 0)
  refine T_go (S' := (3, [(0, .inr (.inr (x0))), (1, .inl (x1))], [.inl ((1 : Int32)), .inl (x1), .inr (.inr (x0))], hp σ, 0, 0)) 3 rfl ?_
  refine T_icmp_lt 16 rfl rfl (fun _ => ?_) (fun _ => ?_)
  · refine T_loc (ls' := [(0, .inr (.inr (x0))), (1, .inl (x1))]) [0, 1] rfl ?_
    exact s_X12_pump_16 x0 x1 x0 σ
  · refine T_go (S' := (9, [(0, .inr (.inr (x0))), (1, .inl (x1))], [.inl ((20 : Int32)), .inl (x1), .inr (.inr (x0))], hp σ, 0, 0)) 2 rfl ?_
    refine T_icmp_gt 16 rfl rfl (fun _ => ?_) (fun _ => ?_)
    · refine T_loc (ls' := [(0, .inr (.inr (x0))), (1, .inl (x1))]) [0, 1] rfl ?_
      exact s_X12_pump_16 x0 x1 x0 σ
    · refine T_go (S' := (17, [(0, .inr (.inr (x0))), (1, .inl (x1))], [.inl ((1 : Int32)), .inr (.inr (x0))], hp σ, 0, 0)) 2 rfl ?_
      refine T_loc (ls' := [(0, .inr (.inr (x0))), (1, .inl (x1))]) [0, 1] rfl ?_
      exact s_X12_pump_17 x0 x1 x0 (1 : Int32) σ
def f_X12_queued_23 (s0 : Int32) (σ : eMem) : Option (Int32 × eMem) :=
  some (s0, σ)
set_option maxHeartbeats 4000000 in
set_option maxRecDepth 20000 in
theorem s_X12_queued_23 (s0 : Int32) (σ : eMem) : Snd false none 1 m_X12_queued (f_X12_queued_23 s0 σ) (cN iI) (23, [], [.inl (s0)], hp σ, 0, 0) := by
  unfold f_X12_queued_23
  exact T_ret rfl
def f_X12_queued (x0 : Nat) (x1 : Int32) (x2 : Int32) (σ : eMem) : Option (Int32 × eMem) :=
  if (KH x0).1 = 10 then
    Option.bind (f_X12_isQueue x0 x1 x2 σ) (fun r1 =>
      if r1.1 = (0 : Int32) then
        f_X12_queued_23 (0 : Int32) r1.2
      else
        if (KH x0).1 = 10 then
          if (KH (RH x0 10)).1 = 11 ∧ eix (((5 : Int32) * x1) + x2) (KH (RH x0 10)).2 = true then
            f_X12_queued_23 (r1.2.1 (RH x0 10) (((5 : Int32) * x1) + x2).toNatClampNeg) r1.2
          else none
        else none
      )
  else none
set_option maxHeartbeats 4000000 in
set_option maxRecDepth 20000 in
theorem s_X12_queued (x0 : Nat) (x1 : Int32) (x2 : Int32) (σ : eMem) : ∀ r, f_X12_queued x0 x1 x2 σ = some r → Ew false 2 177 [.inr (.inr (x0)), .inl (x1), .inl (x2)] (hp σ) (cN iI r) := by
  refine T_meth (md := m_X12_queued) (d0 := 1) (cv := (cN iI)) rfl (lb rfl) (lb rfl) ?_
  unfold f_X12_queued
  show Snd false none _ _ _ _ (0, [(0, .inr (.inr (x0))), (1, .inl (x1)), (2, .inl (x2))], [], hp σ, 0, 0)
  refine T_go (S' := (3, [(0, .inr (.inr (x0))), (1, .inl (x1)), (2, .inl (x2))], [.inl (x2), .inl (x1), .inr (.inr (x0))], hp σ, 0, 0)) 3 rfl ?_
  refine T_cv (i := iI) (as := [.inr (.inr (x0)), .inl (x1), .inl (x2)]) (rest := []) (st := [.inl (x2), .inl (x1), .inr (.inr (x0))]) rfl rfl rfl ⟨lb rfl, lb rfl, lb rfl, lb rfl⟩ (fun _ h => Ew_le (lb rfl) (s_X12_isQueue x0 x1 x2 σ _ h)) (fun _ r1 => ?_)
  show Snd false none _ _ _ (cN iI) (6, [(0, .inr (.inr (x0))), (1, .inl (x1)), (2, .inl (x2))], [.inl (r1.1)], hp r1.2, 0, 0)
  refine T_if_eq 22 rfl rfl (fun _ => ?_) (fun _ => ?_)
  · refine T_go (S' := (23, [(0, .inr (.inr (x0))), (1, .inl (x1)), (2, .inl (x2))], [.inl ((0 : Int32))], hp r1.2, 0, 0)) 1 rfl ?_
    refine T_loc (ls' := []) [] rfl ?_
    exact s_X12_queued_23 (0 : Int32) r1.2
  · refine T_go (S' := (10, [(0, .inr (.inr (x0))), (1, .inl (x1)), (2, .inl (x2))], [.inr (.inr (x0))], hp r1.2, 0, 0)) 1 rfl ?_
    refine T_getR rfl (fun _ => ?_)
    refine T_go (S' := (18, [(0, .inr (.inr (x0))), (1, .inl (x1)), (2, .inl (x2))], [.inl ((((5 : Int32) * x1) + x2)), .inr (.inr ((RH x0 10)))], hp r1.2, 0, 0)) 5 rfl ?_
    refine T_iald rfl (fun _ => ?_)
    refine T_go (S' := (23, [(0, .inr (.inr (x0))), (1, .inl (x1)), (2, .inl (x2))], [.inl ((r1.2.1 (RH x0 10) (((5 : Int32) * x1) + x2).toNatClampNeg))], hp r1.2, 0, 0)) 1 rfl ?_
    refine T_loc (ls' := []) [] rfl ?_
    exact s_X12_queued_23 (r1.2.1 (RH x0 10) (((5 : Int32) * x1) + x2).toNatClampNeg) r1.2
def f_X12_stateOf_41 (s0 : Int32) (σ : eMem) : Option (Int32 × eMem) :=
  some (s0, σ)
set_option maxHeartbeats 4000000 in
set_option maxRecDepth 20000 in
theorem s_X12_stateOf_41 (s0 : Int32) (σ : eMem) : Snd false none 2 m_X12_stateOf (f_X12_stateOf_41 s0 σ) (cN iI) (41, [], [.inl (s0)], hp σ, 0, 0) := by
  unfold f_X12_stateOf_41
  exact T_ret rfl
def f_X12_stateOf_36 (s0 : Int32) (s1 : Int32) (σ : eMem) : Option (Int32 × eMem) :=
  f_X12_stateOf_41 (s0 + s1) σ
set_option maxHeartbeats 4000000 in
set_option maxRecDepth 20000 in
theorem s_X12_stateOf_36 (s0 : Int32) (s1 : Int32) (σ : eMem) : Snd false none 2 m_X12_stateOf (f_X12_stateOf_36 s0 s1 σ) (cN iI) (36, [], [.inl (s1), .inl (s0)], hp σ, 0, 0) := by
  unfold f_X12_stateOf_36
  refine T_go (S' := (41, [], [.inl ((s0 + s1))], hp σ, 0, 0)) 2 rfl ?_
  refine T_loc (ls' := []) [] rfl ?_
  exact s_X12_stateOf_41 (s0 + s1) σ
def f_X12_stateOf (x0 : Nat) (x1 : Int32) (x2 : Int32) (σ : eMem) : Option (Int32 × eMem) :=
  if (KH x0).1 = 10 then
    Option.bind (f_X12_asksLine x0 x1 x2 σ) (fun r1 =>
      if r1.1 = (0 : Int32) then
        f_X12_stateOf_41 (0 : Int32) r1.2
      else
        if (KH x0).1 = 10 then
          Option.bind (f_X12_stateAt x0 x1 x2 r1.2) (fun r2 =>
            if (KH x0).1 = 10 then
              if (KH (RH x0 19)).1 = 11 ∧ eix (((16 : Int32) * x1) + x2) (KH (RH x0 19)).2 = true then
                if ¬ (r2.2.1 (RH x0 19) (((16 : Int32) * x1) + x2).toNatClampNeg) = (-1 : Int32) then
                  f_X12_stateOf_36 r2.1 (10 : Int32) r2.2
                else
                  f_X12_stateOf_36 r2.1 (0 : Int32) r2.2
              else none
            else none
            )
        else none
      )
  else none
set_option maxHeartbeats 4000000 in
set_option maxRecDepth 20000 in
theorem s_X12_stateOf (x0 : Nat) (x1 : Int32) (x2 : Int32) (σ : eMem) : ∀ r, f_X12_stateOf x0 x1 x2 σ = some r → Ew false 3 178 [.inr (.inr (x0)), .inl (x1), .inl (x2)] (hp σ) (cN iI r) := by
  refine T_meth (md := m_X12_stateOf) (d0 := 2) (cv := (cN iI)) rfl (lb rfl) (lb rfl) ?_
  unfold f_X12_stateOf
  show Snd false none _ _ _ _ (0, [(0, .inr (.inr (x0))), (1, .inl (x1)), (2, .inl (x2))], [], hp σ, 0, 0)
  refine T_go (S' := (3, [(0, .inr (.inr (x0))), (1, .inl (x1)), (2, .inl (x2))], [.inl (x2), .inl (x1), .inr (.inr (x0))], hp σ, 0, 0)) 3 rfl ?_
  refine T_cv (i := iI) (as := [.inr (.inr (x0)), .inl (x1), .inl (x2)]) (rest := []) (st := [.inl (x2), .inl (x1), .inr (.inr (x0))]) rfl rfl rfl ⟨lb rfl, lb rfl, lb rfl, lb rfl⟩ (fun _ h => Ew_le (lb rfl) (s_X12_asksLine x0 x1 x2 σ _ h)) (fun _ r1 => ?_)
  show Snd false none _ _ _ (cN iI) (6, [(0, .inr (.inr (x0))), (1, .inl (x1)), (2, .inl (x2))], [.inl (r1.1)], hp r1.2, 0, 0)
  refine T_if_eq 40 rfl rfl (fun _ => ?_) (fun _ => ?_)
  · refine T_go (S' := (41, [(0, .inr (.inr (x0))), (1, .inl (x1)), (2, .inl (x2))], [.inl ((0 : Int32))], hp r1.2, 0, 0)) 1 rfl ?_
    refine T_loc (ls' := []) [] rfl ?_
    exact s_X12_stateOf_41 (0 : Int32) r1.2
  · refine T_go (S' := (12, [(0, .inr (.inr (x0))), (1, .inl (x1)), (2, .inl (x2))], [.inl (x2), .inl (x1), .inr (.inr (x0))], hp r1.2, 0, 0)) 3 rfl ?_
    refine T_cv (i := iI) (as := [.inr (.inr (x0)), .inl (x1), .inl (x2)]) (rest := []) (st := [.inl (x2), .inl (x1), .inr (.inr (x0))]) rfl rfl rfl ⟨lb rfl, lb rfl, lb rfl, lb rfl⟩ (fun _ h => Ew_le (lb rfl) (s_X12_stateAt x0 x1 x2 r1.2 _ h)) (fun _ r2 => ?_)
    show Snd false none _ _ _ (cN iI) (15, [(0, .inr (.inr (x0))), (1, .inl (x1)), (2, .inl (x2))], [.inl (r2.1)], hp r2.2, 0, 0)
    refine T_go (S' := (16, [(0, .inr (.inr (x0))), (1, .inl (x1)), (2, .inl (x2))], [.inr (.inr (x0)), .inl (r2.1)], hp r2.2, 0, 0)) 1 rfl ?_
    refine T_getR rfl (fun _ => ?_)
    refine T_go (S' := (25, [(0, .inr (.inr (x0))), (1, .inl (x1)), (2, .inl (x2))], [.inl ((((16 : Int32) * x1) + x2)), .inr (.inr ((RH x0 19))), .inl (r2.1)], hp r2.2, 0, 0)) 5 rfl ?_
    refine T_iald rfl (fun _ => ?_)
    refine T_go (S' := (27, [(0, .inr (.inr (x0))), (1, .inl (x1)), (2, .inl (x2))], [.inl ((-1 : Int32)), .inl ((r2.2.1 (RH x0 19) (((16 : Int32) * x1) + x2).toNatClampNeg)), .inl (r2.1)], hp r2.2, 0, 0)) 1 rfl ?_
    refine T_icmp_ne 34 rfl rfl (fun _ => ?_) (fun _ => ?_)
    · refine T_go (S' := (36, [(0, .inr (.inr (x0))), (1, .inl (x1)), (2, .inl (x2))], [.inl ((10 : Int32)), .inl (r2.1)], hp r2.2, 0, 0)) 1 rfl ?_
      refine T_loc (ls' := []) [] rfl ?_
      exact s_X12_stateOf_36 r2.1 (10 : Int32) r2.2
    · refine T_go (S' := (36, [(0, .inr (.inr (x0))), (1, .inl (x1)), (2, .inl (x2))], [.inl ((0 : Int32)), .inl (r2.1)], hp r2.2, 0, 0)) 2 rfl ?_
      refine T_loc (ls' := []) [] rfl ?_
      exact s_X12_stateOf_36 r2.1 (0 : Int32) r2.2
def f_X12_valueIn_45 (s0 : Int32) (σ : eMem) : Option (Int32 × eMem) :=
  some (s0, σ)
set_option maxHeartbeats 4000000 in
set_option maxRecDepth 20000 in
theorem s_X12_valueIn_45 (s0 : Int32) (σ : eMem) : Snd false none 2 m_X12_valueIn (f_X12_valueIn_45 s0 σ) (cN iI) (45, [], [.inl (s0)], hp σ, 0, 0) := by
  unfold f_X12_valueIn_45
  exact T_ret rfl
def f_X12_valueIn_35  (σ : eMem) : Option (Int32 × eMem) :=
  f_X12_valueIn_45 (-1 : Int32) σ
set_option maxHeartbeats 4000000 in
set_option maxRecDepth 20000 in
theorem s_X12_valueIn_35  (σ : eMem) : Snd false none 2 m_X12_valueIn (f_X12_valueIn_35 σ) (cN iI) (35, [], [], hp σ, 0, 0) := by
  unfold f_X12_valueIn_35
  refine T_go (S' := (45, [], [.inl ((-1 : Int32))], hp σ, 0, 0)) 2 rfl ?_
  refine T_loc (ls' := []) [] rfl ?_
  exact s_X12_valueIn_45 (-1 : Int32) σ
def f_X12_valueIn (x0 : Nat) (x1 : Int32) (x2 : Int32) (σ : eMem) : Option (Int32 × eMem) :=
  if (KH x0).1 = 10 then
    Option.bind (f_X12_asksLine x0 x1 x2 σ) (fun r1 =>
      if ¬ r1.1 = (0 : Int32) then
        if (KH x0).1 = 10 then
          Option.bind (f_X12_placeOf x0 x1 x2 r1.2) (fun r2 =>
            if r2.1 = (-1 : Int32) then
              f_X12_valueIn_35  r2.2
            else
              if (KH x0).1 = 10 then
                if (KH (RH x0 13)).1 = 11 ∧ eix r2.1 (KH (RH x0 13)).2 = true then
                  Option.bind (f_X12_isWaiting (r2.2.1 (RH x0 13) r2.1.toNatClampNeg) r2.2) (fun r3 =>
                    if r3.1 = (0 : Int32) then
                      if (KH x0).1 = 10 then
                        if (KH (RH x0 14)).1 = 11 ∧ eix r2.1 (KH (RH x0 14)).2 = true then
                          f_X12_valueIn_45 (r3.2.1 (RH x0 14) r2.1.toNatClampNeg) r3.2
                        else none
                      else none
                    else
                      f_X12_valueIn_35  r3.2
                    )
                else none
              else none
            )
        else none
      else
        some ((0 : Int32), r1.2)
      )
  else none
set_option maxHeartbeats 4000000 in
set_option maxRecDepth 20000 in
theorem s_X12_valueIn (x0 : Nat) (x1 : Int32) (x2 : Int32) (σ : eMem) : ∀ r, f_X12_valueIn x0 x1 x2 σ = some r → Ew false 3 179 [.inr (.inr (x0)), .inl (x1), .inl (x2)] (hp σ) (cN iI r) := by
  refine T_meth (md := m_X12_valueIn) (d0 := 2) (cv := (cN iI)) rfl (lb rfl) (lb rfl) ?_
  unfold f_X12_valueIn
  show Snd false none _ _ _ _ (0, [(0, .inr (.inr (x0))), (1, .inl (x1)), (2, .inl (x2))], [], hp σ, 0, 0)
  refine T_go (S' := (3, [(0, .inr (.inr (x0))), (1, .inl (x1)), (2, .inl (x2))], [.inl (x2), .inl (x1), .inr (.inr (x0))], hp σ, 0, 0)) 3 rfl ?_
  refine T_cv (i := iI) (as := [.inr (.inr (x0)), .inl (x1), .inl (x2)]) (rest := []) (st := [.inl (x2), .inl (x1), .inr (.inr (x0))]) rfl rfl rfl ⟨lb rfl, lb rfl, lb rfl, lb rfl⟩ (fun _ h => Ew_le (lb rfl) (s_X12_asksLine x0 x1 x2 σ _ h)) (fun _ r1 => ?_)
  show Snd false none _ _ _ (cN iI) (6, [(0, .inr (.inr (x0))), (1, .inl (x1)), (2, .inl (x2))], [.inl (r1.1)], hp r1.2, 0, 0)
  refine T_if_ne 11 rfl rfl (fun _ => ?_) (fun _ => ?_)
  · refine T_go (S' := (14, [(0, .inr (.inr (x0))), (1, .inl (x1)), (2, .inl (x2))], [.inl (x2), .inl (x1), .inr (.inr (x0))], hp r1.2, 0, 0)) 3 rfl ?_
    refine T_cv (i := iI) (as := [.inr (.inr (x0)), .inl (x1), .inl (x2)]) (rest := []) (st := [.inl (x2), .inl (x1), .inr (.inr (x0))]) rfl rfl rfl ⟨lb rfl, lb rfl, lb rfl, lb rfl⟩ (fun _ h => Ew_le (lb rfl) (s_X12_placeOf x0 x1 x2 r1.2 _ h)) (fun _ r2 => ?_)
    show Snd false none _ _ _ (cN iI) (17, [(0, .inr (.inr (x0))), (1, .inl (x1)), (2, .inl (x2))], [.inl (r2.1)], hp r2.2, 0, 0)
    refine T_go (S' := (20, [(3, .inl (r2.1)), (0, .inr (.inr (x0))), (1, .inl (x1)), (2, .inl (x2))], [.inl ((-1 : Int32)), .inl (r2.1)], hp r2.2, 0, 0)) 3 rfl ?_
    refine T_icmp_eq 35 rfl rfl (fun _ => ?_) (fun _ => ?_)
    · refine T_loc (ls' := []) [] rfl ?_
      exact s_X12_valueIn_35  r2.2
    · refine T_go (S' := (24, [(3, .inl (r2.1)), (0, .inr (.inr (x0))), (1, .inl (x1)), (2, .inl (x2))], [.inr (.inr (x0))], hp r2.2, 0, 0)) 1 rfl ?_
      refine T_getR rfl (fun _ => ?_)
      refine T_go (S' := (28, [(3, .inl (r2.1)), (0, .inr (.inr (x0))), (1, .inl (x1)), (2, .inl (x2))], [.inl (r2.1), .inr (.inr ((RH x0 13)))], hp r2.2, 0, 0)) 1 rfl ?_
      refine T_iald rfl (fun _ => ?_)
      refine T_cs (i := iI) (as := [.inl ((r2.2.1 (RH x0 13) r2.1.toNatClampNeg))]) (rest := []) (st := [.inl ((r2.2.1 (RH x0 13) r2.1.toNatClampNeg))]) rfl (lb rfl) rfl rfl ⟨lb rfl, lb rfl, lb rfl, lb rfl⟩ (fun _ h => Ew_le (lb rfl) (s_X12_isWaiting (r2.2.1 (RH x0 13) r2.1.toNatClampNeg) r2.2 _ h)) (fun r3 => ?_)
      show Snd false none _ _ _ (cN iI) (32, [(3, .inl (r2.1)), (0, .inr (.inr (x0))), (1, .inl (x1)), (2, .inl (x2))], [.inl (r3.1)], hp r3.2, 0, 0)
      refine T_if_eq 39 rfl rfl (fun _ => ?_) (fun _ => ?_)
      · refine T_go (S' := (40, [(3, .inl (r2.1)), (0, .inr (.inr (x0))), (1, .inl (x1)), (2, .inl (x2))], [.inr (.inr (x0))], hp r3.2, 0, 0)) 1 rfl ?_
        refine T_getR rfl (fun _ => ?_)
        refine T_go (S' := (44, [(3, .inl (r2.1)), (0, .inr (.inr (x0))), (1, .inl (x1)), (2, .inl (x2))], [.inl (r2.1), .inr (.inr ((RH x0 14)))], hp r3.2, 0, 0)) 1 rfl ?_
        refine T_iald rfl (fun _ => ?_)
        refine T_loc (ls' := []) [] rfl ?_
        exact s_X12_valueIn_45 (r3.2.1 (RH x0 14) r2.1.toNatClampNeg) r3.2
      · refine T_loc (ls' := []) [] rfl ?_
        exact s_X12_valueIn_35  r3.2
  · refine T_go (S' := (10, [(0, .inr (.inr (x0))), (1, .inl (x1)), (2, .inl (x2))], [.inl ((0 : Int32))], hp r1.2, 0, 0)) 1 rfl ?_
    exact T_ret rfl
def f_X12_home_21 (s0 : Int32) (σ : eMem) : Option (Int32 × eMem) :=
  some (s0, σ)
set_option maxHeartbeats 4000000 in
set_option maxRecDepth 20000 in
theorem s_X12_home_21 (s0 : Int32) (σ : eMem) : Snd false none 1 m_X12_home (f_X12_home_21 s0 σ) (cN iI) (21, [], [.inl (s0)], hp σ, 0, 0) := by
  unfold f_X12_home_21
  exact T_ret rfl
def f_X12_home (x0 : Nat) (x1 : Int32) (σ : eMem) : Option (Int32 × eMem) :=
  Option.bind (f_X12_isLine x1 σ) (fun r1 =>
    if (KH x0).1 = 10 then
      Option.bind (f_X12_asks x0 r1.1 r1.2) (fun r2 =>
        if r2.1 = (0 : Int32) then
          f_X12_home_21 (0 : Int32) r2.2
        else
          if (KH x0).1 = 10 then
            if (KH (RH x0 0)).1 = 11 ∧ eix x1 (KH (RH x0 0)).2 = true then
              f_X12_home_21 (r2.2.1 (RH x0 0) x1.toNatClampNeg) r2.2
            else none
          else none
        )
    else none
    )
set_option maxHeartbeats 4000000 in
set_option maxRecDepth 20000 in
theorem s_X12_home (x0 : Nat) (x1 : Int32) (σ : eMem) : ∀ r, f_X12_home x0 x1 σ = some r → Ew false 2 180 [.inr (.inr (x0)), .inl (x1)] (hp σ) (cN iI r) := by
  refine T_meth (md := m_X12_home) (d0 := 1) (cv := (cN iI)) rfl (lb rfl) (lb rfl) ?_
  unfold f_X12_home
  show Snd false none _ _ _ _ (0, [(0, .inr (.inr (x0))), (1, .inl (x1))], [], hp σ, 0, 0)
  refine T_go (S' := (2, [(0, .inr (.inr (x0))), (1, .inl (x1))], [.inl (x1), .inr (.inr (x0))], hp σ, 0, 0)) 2 rfl ?_
  refine T_cs (i := iI) (as := [.inl (x1)]) (rest := [.inr (.inr (x0))]) (st := [.inl (x1), .inr (.inr (x0))]) rfl (lb rfl) rfl rfl ⟨lb rfl, lb rfl, lb rfl, lb rfl⟩ (fun _ h => Ew_le (lb rfl) (s_X12_isLine x1 σ _ h)) (fun r1 => ?_)
  show Snd false none _ _ _ (cN iI) (5, [(0, .inr (.inr (x0))), (1, .inl (x1))], [.inl (r1.1), .inr (.inr (x0))], hp r1.2, 0, 0)
  refine T_cv (i := iI) (as := [.inr (.inr (x0)), .inl (r1.1)]) (rest := []) (st := [.inl (r1.1), .inr (.inr (x0))]) rfl rfl rfl ⟨lb rfl, lb rfl, lb rfl, lb rfl⟩ (fun _ h => Ew_le (lb rfl) (s_X12_asks x0 r1.1 r1.2 _ h)) (fun _ r2 => ?_)
  show Snd false none _ _ _ (cN iI) (8, [(0, .inr (.inr (x0))), (1, .inl (x1))], [.inl (r2.1)], hp r2.2, 0, 0)
  refine T_if_eq 20 rfl rfl (fun _ => ?_) (fun _ => ?_)
  · refine T_go (S' := (21, [(0, .inr (.inr (x0))), (1, .inl (x1))], [.inl ((0 : Int32))], hp r2.2, 0, 0)) 1 rfl ?_
    refine T_loc (ls' := []) [] rfl ?_
    exact s_X12_home_21 (0 : Int32) r2.2
  · refine T_go (S' := (12, [(0, .inr (.inr (x0))), (1, .inl (x1))], [.inr (.inr (x0))], hp r2.2, 0, 0)) 1 rfl ?_
    refine T_getR rfl (fun _ => ?_)
    refine T_go (S' := (16, [(0, .inr (.inr (x0))), (1, .inl (x1))], [.inl (x1), .inr (.inr ((RH x0 0)))], hp r2.2, 0, 0)) 1 rfl ?_
    refine T_iald rfl (fun _ => ?_)
    refine T_go (S' := (21, [(0, .inr (.inr (x0))), (1, .inl (x1))], [.inl ((r2.2.1 (RH x0 0) x1.toNatClampNeg))], hp r2.2, 0, 0)) 1 rfl ?_
    refine T_loc (ls' := []) [] rfl ?_
    exact s_X12_home_21 (r2.2.1 (RH x0 0) x1.toNatClampNeg) r2.2
def f_X12_owner_21 (s0 : Int32) (σ : eMem) : Option (Int32 × eMem) :=
  some (s0, σ)
set_option maxHeartbeats 4000000 in
set_option maxRecDepth 20000 in
theorem s_X12_owner_21 (s0 : Int32) (σ : eMem) : Snd false none 1 m_X12_owner (f_X12_owner_21 s0 σ) (cN iI) (21, [], [.inl (s0)], hp σ, 0, 0) := by
  unfold f_X12_owner_21
  exact T_ret rfl
def f_X12_owner (x0 : Nat) (x1 : Int32) (σ : eMem) : Option (Int32 × eMem) :=
  Option.bind (f_X12_isLine x1 σ) (fun r1 =>
    if (KH x0).1 = 10 then
      Option.bind (f_X12_asks x0 r1.1 r1.2) (fun r2 =>
        if r2.1 = (0 : Int32) then
          f_X12_owner_21 (0 : Int32) r2.2
        else
          if (KH x0).1 = 10 then
            if (KH (RH x0 1)).1 = 11 ∧ eix x1 (KH (RH x0 1)).2 = true then
              f_X12_owner_21 (r2.2.1 (RH x0 1) x1.toNatClampNeg) r2.2
            else none
          else none
        )
    else none
    )
set_option maxHeartbeats 4000000 in
set_option maxRecDepth 20000 in
theorem s_X12_owner (x0 : Nat) (x1 : Int32) (σ : eMem) : ∀ r, f_X12_owner x0 x1 σ = some r → Ew false 2 181 [.inr (.inr (x0)), .inl (x1)] (hp σ) (cN iI r) := by
  refine T_meth (md := m_X12_owner) (d0 := 1) (cv := (cN iI)) rfl (lb rfl) (lb rfl) ?_
  unfold f_X12_owner
  show Snd false none _ _ _ _ (0, [(0, .inr (.inr (x0))), (1, .inl (x1))], [], hp σ, 0, 0)
  refine T_go (S' := (2, [(0, .inr (.inr (x0))), (1, .inl (x1))], [.inl (x1), .inr (.inr (x0))], hp σ, 0, 0)) 2 rfl ?_
  refine T_cs (i := iI) (as := [.inl (x1)]) (rest := [.inr (.inr (x0))]) (st := [.inl (x1), .inr (.inr (x0))]) rfl (lb rfl) rfl rfl ⟨lb rfl, lb rfl, lb rfl, lb rfl⟩ (fun _ h => Ew_le (lb rfl) (s_X12_isLine x1 σ _ h)) (fun r1 => ?_)
  show Snd false none _ _ _ (cN iI) (5, [(0, .inr (.inr (x0))), (1, .inl (x1))], [.inl (r1.1), .inr (.inr (x0))], hp r1.2, 0, 0)
  refine T_cv (i := iI) (as := [.inr (.inr (x0)), .inl (r1.1)]) (rest := []) (st := [.inl (r1.1), .inr (.inr (x0))]) rfl rfl rfl ⟨lb rfl, lb rfl, lb rfl, lb rfl⟩ (fun _ h => Ew_le (lb rfl) (s_X12_asks x0 r1.1 r1.2 _ h)) (fun _ r2 => ?_)
  show Snd false none _ _ _ (cN iI) (8, [(0, .inr (.inr (x0))), (1, .inl (x1))], [.inl (r2.1)], hp r2.2, 0, 0)
  refine T_if_eq 20 rfl rfl (fun _ => ?_) (fun _ => ?_)
  · refine T_go (S' := (21, [(0, .inr (.inr (x0))), (1, .inl (x1))], [.inl ((0 : Int32))], hp r2.2, 0, 0)) 1 rfl ?_
    refine T_loc (ls' := []) [] rfl ?_
    exact s_X12_owner_21 (0 : Int32) r2.2
  · refine T_go (S' := (12, [(0, .inr (.inr (x0))), (1, .inl (x1))], [.inr (.inr (x0))], hp r2.2, 0, 0)) 1 rfl ?_
    refine T_getR rfl (fun _ => ?_)
    refine T_go (S' := (16, [(0, .inr (.inr (x0))), (1, .inl (x1))], [.inl (x1), .inr (.inr ((RH x0 1)))], hp r2.2, 0, 0)) 1 rfl ?_
    refine T_iald rfl (fun _ => ?_)
    refine T_go (S' := (21, [(0, .inr (.inr (x0))), (1, .inl (x1))], [.inl ((r2.2.1 (RH x0 1) x1.toNatClampNeg))], hp r2.2, 0, 0)) 1 rfl ?_
    refine T_loc (ls' := []) [] rfl ?_
    exact s_X12_owner_21 (r2.2.1 (RH x0 1) x1.toNatClampNeg) r2.2
def f_X12_sharers_35 (s0 : Int32) (σ : eMem) : Option (Int32 × eMem) :=
  some (s0, σ)
set_option maxHeartbeats 4000000 in
set_option maxRecDepth 20000 in
theorem s_X12_sharers_35 (s0 : Int32) (σ : eMem) : Snd false none 1 m_X12_sharers (f_X12_sharers_35 s0 σ) (cN iI) (35, [], [.inl (s0)], hp σ, 0, 0) := by
  unfold f_X12_sharers_35
  exact T_ret rfl
def f_X12_sharers (x0 : Nat) (x1 : Int32) (σ : eMem) : Option (Int32 × eMem) :=
  Option.bind (f_X12_isLine x1 σ) (fun r1 =>
    if (KH x0).1 = 10 then
      Option.bind (f_X12_asks x0 r1.1 r1.2) (fun r2 =>
        if r2.1 = (0 : Int32) then
          f_X12_sharers_35 (0 : Int32) r2.2
        else
          if (KH x0).1 = 10 then
            if (KH (RH x0 3)).1 = 13 ∧ eix x1 (KH (RH x0 3)).2 = true then
              if (r2.2.1 (RH x0 3) x1.toNatClampNeg) = (0 : Int32) then
                if (KH x0).1 = 10 then
                  if (KH (RH x0 2)).1 = 11 ∧ eix x1 (KH (RH x0 2)).2 = true then
                    f_X12_sharers_35 (r2.2.1 (RH x0 2) x1.toNatClampNeg) r2.2
                  else none
                else none
              else
                f_X12_sharers_35 (15 : Int32) r2.2
            else none
          else none
        )
    else none
    )
set_option maxHeartbeats 4000000 in
set_option maxRecDepth 20000 in
theorem s_X12_sharers (x0 : Nat) (x1 : Int32) (σ : eMem) : ∀ r, f_X12_sharers x0 x1 σ = some r → Ew false 2 182 [.inr (.inr (x0)), .inl (x1)] (hp σ) (cN iI r) := by
  refine T_meth (md := m_X12_sharers) (d0 := 1) (cv := (cN iI)) rfl (lb rfl) (lb rfl) ?_
  unfold f_X12_sharers
  show Snd false none _ _ _ _ (0, [(0, .inr (.inr (x0))), (1, .inl (x1))], [], hp σ, 0, 0)
  refine T_go (S' := (2, [(0, .inr (.inr (x0))), (1, .inl (x1))], [.inl (x1), .inr (.inr (x0))], hp σ, 0, 0)) 2 rfl ?_
  refine T_cs (i := iI) (as := [.inl (x1)]) (rest := [.inr (.inr (x0))]) (st := [.inl (x1), .inr (.inr (x0))]) rfl (lb rfl) rfl rfl ⟨lb rfl, lb rfl, lb rfl, lb rfl⟩ (fun _ h => Ew_le (lb rfl) (s_X12_isLine x1 σ _ h)) (fun r1 => ?_)
  show Snd false none _ _ _ (cN iI) (5, [(0, .inr (.inr (x0))), (1, .inl (x1))], [.inl (r1.1), .inr (.inr (x0))], hp r1.2, 0, 0)
  refine T_cv (i := iI) (as := [.inr (.inr (x0)), .inl (r1.1)]) (rest := []) (st := [.inl (r1.1), .inr (.inr (x0))]) rfl rfl rfl ⟨lb rfl, lb rfl, lb rfl, lb rfl⟩ (fun _ h => Ew_le (lb rfl) (s_X12_asks x0 r1.1 r1.2 _ h)) (fun _ r2 => ?_)
  show Snd false none _ _ _ (cN iI) (8, [(0, .inr (.inr (x0))), (1, .inl (x1))], [.inl (r2.1)], hp r2.2, 0, 0)
  refine T_if_eq 34 rfl rfl (fun _ => ?_) (fun _ => ?_)
  · refine T_go (S' := (35, [(0, .inr (.inr (x0))), (1, .inl (x1))], [.inl ((0 : Int32))], hp r2.2, 0, 0)) 1 rfl ?_
    refine T_loc (ls' := []) [] rfl ?_
    exact s_X12_sharers_35 (0 : Int32) r2.2
  · refine T_go (S' := (12, [(0, .inr (.inr (x0))), (1, .inl (x1))], [.inr (.inr (x0))], hp r2.2, 0, 0)) 1 rfl ?_
    refine T_getR rfl (fun _ => ?_)
    refine T_go (S' := (16, [(0, .inr (.inr (x0))), (1, .inl (x1))], [.inl (x1), .inr (.inr ((RH x0 3)))], hp r2.2, 0, 0)) 1 rfl ?_
    refine T_bald rfl (fun _ => ?_)
    refine T_if_eq 25 rfl rfl (fun _ => ?_) (fun _ => ?_)
    · refine T_go (S' := (26, [(0, .inr (.inr (x0))), (1, .inl (x1))], [.inr (.inr (x0))], hp r2.2, 0, 0)) 1 rfl ?_
      refine T_getR rfl (fun _ => ?_)
      refine T_go (S' := (30, [(0, .inr (.inr (x0))), (1, .inl (x1))], [.inl (x1), .inr (.inr ((RH x0 2)))], hp r2.2, 0, 0)) 1 rfl ?_
      refine T_iald rfl (fun _ => ?_)
      refine T_go (S' := (35, [(0, .inr (.inr (x0))), (1, .inl (x1))], [.inl ((r2.2.1 (RH x0 2) x1.toNatClampNeg))], hp r2.2, 0, 0)) 1 rfl ?_
      refine T_loc (ls' := []) [] rfl ?_
      exact s_X12_sharers_35 (r2.2.1 (RH x0 2) x1.toNatClampNeg) r2.2
    · refine T_go (S' := (35, [(0, .inr (.inr (x0))), (1, .inl (x1))], [.inl ((15 : Int32))], hp r2.2, 0, 0)) 2 rfl ?_
      refine T_loc (ls' := []) [] rfl ?_
      exact s_X12_sharers_35 (15 : Int32) r2.2
def f_X12_waiting_37 (s0 : Int32) (σ : eMem) : Option (Int32 × eMem) :=
  some (s0, σ)
set_option maxHeartbeats 4000000 in
set_option maxRecDepth 20000 in
theorem s_X12_waiting_37 (s0 : Int32) (σ : eMem) : Snd false none 1 m_X12_waiting (f_X12_waiting_37 s0 σ) (cN iI) (37, [], [.inl (s0)], hp σ, 0, 0) := by
  unfold f_X12_waiting_37
  exact T_ret rfl
def f_X12_waiting_32 (s0 : Int32) (s1 : Int32) (σ : eMem) : Option (Int32 × eMem) :=
  f_X12_waiting_37 (s0 + s1) σ
set_option maxHeartbeats 4000000 in
set_option maxRecDepth 20000 in
theorem s_X12_waiting_32 (s0 : Int32) (s1 : Int32) (σ : eMem) : Snd false none 1 m_X12_waiting (f_X12_waiting_32 s0 s1 σ) (cN iI) (32, [], [.inl (s1), .inl (s0)], hp σ, 0, 0) := by
  unfold f_X12_waiting_32
  refine T_go (S' := (37, [], [.inl ((s0 + s1))], hp σ, 0, 0)) 2 rfl ?_
  refine T_loc (ls' := []) [] rfl ?_
  exact s_X12_waiting_37 (s0 + s1) σ
def f_X12_waiting (x0 : Nat) (x1 : Int32) (σ : eMem) : Option (Int32 × eMem) :=
  Option.bind (f_X12_isLine x1 σ) (fun r1 =>
    if (KH x0).1 = 10 then
      Option.bind (f_X12_asks x0 r1.1 r1.2) (fun r2 =>
        if r2.1 = (0 : Int32) then
          f_X12_waiting_37 (0 : Int32) r2.2
        else
          if (KH x0).1 = 10 then
            if (KH (RH x0 7)).1 = 11 ∧ eix x1 (KH (RH x0 7)).2 = true then
              if (KH x0).1 = 10 then
                if (KH (RH x0 4)).1 = 11 ∧ eix x1 (KH (RH x0 4)).2 = true then
                  if ¬ (r2.2.1 (RH x0 4) x1.toNatClampNeg) = (-1 : Int32) then
                    f_X12_waiting_32 (r2.2.1 (RH x0 7) x1.toNatClampNeg) (1 : Int32) r2.2
                  else
                    f_X12_waiting_32 (r2.2.1 (RH x0 7) x1.toNatClampNeg) (0 : Int32) r2.2
                else none
              else none
            else none
          else none
        )
    else none
    )
set_option maxHeartbeats 4000000 in
set_option maxRecDepth 20000 in
theorem s_X12_waiting (x0 : Nat) (x1 : Int32) (σ : eMem) : ∀ r, f_X12_waiting x0 x1 σ = some r → Ew false 2 183 [.inr (.inr (x0)), .inl (x1)] (hp σ) (cN iI r) := by
  refine T_meth (md := m_X12_waiting) (d0 := 1) (cv := (cN iI)) rfl (lb rfl) (lb rfl) ?_
  unfold f_X12_waiting
  show Snd false none _ _ _ _ (0, [(0, .inr (.inr (x0))), (1, .inl (x1))], [], hp σ, 0, 0)
  refine T_go (S' := (2, [(0, .inr (.inr (x0))), (1, .inl (x1))], [.inl (x1), .inr (.inr (x0))], hp σ, 0, 0)) 2 rfl ?_
  refine T_cs (i := iI) (as := [.inl (x1)]) (rest := [.inr (.inr (x0))]) (st := [.inl (x1), .inr (.inr (x0))]) rfl (lb rfl) rfl rfl ⟨lb rfl, lb rfl, lb rfl, lb rfl⟩ (fun _ h => Ew_le (lb rfl) (s_X12_isLine x1 σ _ h)) (fun r1 => ?_)
  show Snd false none _ _ _ (cN iI) (5, [(0, .inr (.inr (x0))), (1, .inl (x1))], [.inl (r1.1), .inr (.inr (x0))], hp r1.2, 0, 0)
  refine T_cv (i := iI) (as := [.inr (.inr (x0)), .inl (r1.1)]) (rest := []) (st := [.inl (r1.1), .inr (.inr (x0))]) rfl rfl rfl ⟨lb rfl, lb rfl, lb rfl, lb rfl⟩ (fun _ h => Ew_le (lb rfl) (s_X12_asks x0 r1.1 r1.2 _ h)) (fun _ r2 => ?_)
  show Snd false none _ _ _ (cN iI) (8, [(0, .inr (.inr (x0))), (1, .inl (x1))], [.inl (r2.1)], hp r2.2, 0, 0)
  refine T_if_eq 36 rfl rfl (fun _ => ?_) (fun _ => ?_)
  · refine T_go (S' := (37, [(0, .inr (.inr (x0))), (1, .inl (x1))], [.inl ((0 : Int32))], hp r2.2, 0, 0)) 1 rfl ?_
    refine T_loc (ls' := []) [] rfl ?_
    exact s_X12_waiting_37 (0 : Int32) r2.2
  · refine T_go (S' := (12, [(0, .inr (.inr (x0))), (1, .inl (x1))], [.inr (.inr (x0))], hp r2.2, 0, 0)) 1 rfl ?_
    refine T_getR rfl (fun _ => ?_)
    refine T_go (S' := (16, [(0, .inr (.inr (x0))), (1, .inl (x1))], [.inl (x1), .inr (.inr ((RH x0 7)))], hp r2.2, 0, 0)) 1 rfl ?_
    refine T_iald rfl (fun _ => ?_)
    refine T_go (S' := (18, [(0, .inr (.inr (x0))), (1, .inl (x1))], [.inr (.inr (x0)), .inl ((r2.2.1 (RH x0 7) x1.toNatClampNeg))], hp r2.2, 0, 0)) 1 rfl ?_
    refine T_getR rfl (fun _ => ?_)
    refine T_go (S' := (22, [(0, .inr (.inr (x0))), (1, .inl (x1))], [.inl (x1), .inr (.inr ((RH x0 4))), .inl ((r2.2.1 (RH x0 7) x1.toNatClampNeg))], hp r2.2, 0, 0)) 1 rfl ?_
    refine T_iald rfl (fun _ => ?_)
    refine T_go (S' := (24, [(0, .inr (.inr (x0))), (1, .inl (x1))], [.inl ((-1 : Int32)), .inl ((r2.2.1 (RH x0 4) x1.toNatClampNeg)), .inl ((r2.2.1 (RH x0 7) x1.toNatClampNeg))], hp r2.2, 0, 0)) 1 rfl ?_
    refine T_icmp_ne 31 rfl rfl (fun _ => ?_) (fun _ => ?_)
    · refine T_go (S' := (32, [(0, .inr (.inr (x0))), (1, .inl (x1))], [.inl ((1 : Int32)), .inl ((r2.2.1 (RH x0 7) x1.toNatClampNeg))], hp r2.2, 0, 0)) 1 rfl ?_
      refine T_loc (ls' := []) [] rfl ?_
      exact s_X12_waiting_32 (r2.2.1 (RH x0 7) x1.toNatClampNeg) (1 : Int32) r2.2
    · refine T_go (S' := (32, [(0, .inr (.inr (x0))), (1, .inl (x1))], [.inl ((0 : Int32)), .inl ((r2.2.1 (RH x0 7) x1.toNatClampNeg))], hp r2.2, 0, 0)) 2 rfl ?_
      refine T_loc (ls' := []) [] rfl ?_
      exact s_X12_waiting_32 (r2.2.1 (RH x0 7) x1.toNatClampNeg) (0 : Int32) r2.2
def f_X12_truth_L113 : Nat → (Nat × Int32 × Int32 × Int32 × Int32 ⊕ (Nat × Int32 × Int32 × Int32 × Int32 ⊕ (Nat × Int32 × Int32 × Int32 × Int32))) → eMem → Option (Int32 × eMem)
  | 0, _, _ => none
  | n + 1, .inl (x0, x1, x4, x5, x6), σ =>
    if x6 < (0 : Int32) then
      some (x5, σ)
    else
      if (KH x0).1 = 10 then
        if (KH x0).1 = 10 then
          if (KH (RH x0 9)).1 = 11 ∧ eix x4 (KH (RH x0 9)).2 = true then
            if ¬ (128 : Int32) = 0 then
              if (KH (RH x0 11)).1 = 11 ∧ eix (((128 : Int32) * x4) + (((σ.1 (RH x0 9) x4.toNatClampNeg) + x6) - ((σ.1 (RH x0 9) x4.toNatClampNeg) + x6) / (128 : Int32) * (128 : Int32))) (KH (RH x0 11)).2 = true then
                eLet ((σ.1 (RH x0 11) (((128 : Int32) * x4) + (((σ.1 (RH x0 9) x4.toNatClampNeg) + x6) - ((σ.1 (RH x0 9) x4.toNatClampNeg) + x6) / (128 : Int32) * (128 : Int32))).toNatClampNeg) : Int32) (fun v1 =>
                  if ¬ (16 : Int32) = 0 then
                    if ¬ (v1 - v1 / (16 : Int32) * (16 : Int32)) = (8 : Int32) then
                      f_X12_truth_L113 n (.inr (.inl (x0, x1, x4, x5, x6))) σ
                    else
                      if ¬ (16 : Int32) = 0 then
                        if ¬ (16 : Int32) = 0 then
                          if ¬ ((v1 / (16 : Int32)) - (v1 / (16 : Int32)) / (16 : Int32) * (16 : Int32)) = x1 then
                            f_X12_truth_L113 n (.inr (.inl (x0, x1, x4, x5, x6))) σ
                          else
                            if ¬ (2048 : Int32) = 0 then
                              f_X12_truth_L113 n (.inr (.inr ((x0, x1, x4, x6, (v1 / (2048 : Int32)))))) σ
                            else none
                        else none
                      else none
                  else none
                  )
              else none
            else none
          else none
        else none
      else none
  | n + 1, .inr (.inl (x0, x1, x4, x5, x6)), σ =>
    f_X12_truth_L113 n (.inr (.inr ((x0, x1, x4, x6, x5)))) σ
  | n + 1, .inr (.inr ((x0, x1, x4, x6, s0))), σ =>
    f_X12_truth_L113 n (.inl (x0, x1, x4, s0, (x6 + (-1 : Int32)))) σ
set_option maxHeartbeats 4000000 in
set_option maxRecDepth 20000 in
theorem s_X12_truth_L113 : ∀ (n : Nat), (∀ (x0 : Nat) (x1 : Int32) (x4 : Int32) (x5 : Int32) (x6 : Int32) (σ : eMem), Snd false none 1 m_X12_truth (f_X12_truth_L113 n (.inl (x0, x1, x4, x5, x6)) σ) (cN iI) (113, [(0, .inr (.inr (x0))), (1, .inl (x1)), (4, .inl (x4)), (5, .inl (x5)), (6, .inl (x6))], [], hp σ, 0, 0)) ∧ (∀ (x0 : Nat) (x1 : Int32) (x4 : Int32) (x5 : Int32) (x6 : Int32) (σ : eMem), Snd false none 1 m_X12_truth (f_X12_truth_L113 n (.inr (.inl (x0, x1, x4, x5, x6))) σ) (cN iI) (177, [(0, .inr (.inr (x0))), (1, .inl (x1)), (4, .inl (x4)), (5, .inl (x5)), (6, .inl (x6))], [], hp σ, 0, 0)) ∧ (∀ (x0 : Nat) (x1 : Int32) (x4 : Int32) (x6 : Int32) (s0 : Int32) (σ : eMem), Snd false none 1 m_X12_truth (f_X12_truth_L113 n (.inr (.inr ((x0, x1, x4, x6, s0)))) σ) (cN iI) (179, [(0, .inr (.inr (x0))), (1, .inl (x1)), (4, .inl (x4)), (6, .inl (x6))], [.inl (s0)], hp σ, 0, 0)) := by
  intro n
  induction n with
  | zero => exact ⟨fun _ _ _ _ _ _ => T_none, fun _ _ _ _ _ _ => T_none, fun _ _ _ _ _ _ => T_none⟩
  | succ n ih =>
    refine ⟨?_, ?_, ?_⟩
    · intro x0 x1 x4 x5 x6 σ
      unfold f_X12_truth_L113
      refine T_go (S' := (115, [(0, .inr (.inr (x0))), (1, .inl (x1)), (4, .inl (x4)), (5, .inl (x5)), (6, .inl (x6))], [.inl (x6)], hp σ, 0, 0)) 1 rfl ?_
      refine T_if_lt 187 rfl rfl (fun _ => ?_) (fun _ => ?_)
      · refine T_go (S' := (189, [(0, .inr (.inr (x0))), (1, .inl (x1)), (4, .inl (x4)), (5, .inl (x5)), (6, .inl (x6))], [.inl (x5)], hp σ, 0, 0)) 1 rfl ?_
        exact T_ret rfl
      · refine T_go (S' := (119, [(0, .inr (.inr (x0))), (1, .inl (x1)), (4, .inl (x4)), (5, .inl (x5)), (6, .inl (x6))], [.inr (.inr (x0))], hp σ, 0, 0)) 1 rfl ?_
        refine T_getR rfl (fun _ => ?_)
        refine T_go (S' := (129, [(0, .inr (.inr (x0))), (1, .inl (x1)), (4, .inl (x4)), (5, .inl (x5)), (6, .inl (x6))], [.inr (.inr (x0)), .inl (((128 : Int32) * x4)), .inr (.inr ((RH x0 11)))], hp σ, 0, 0)) 4 rfl ?_
        refine T_getR rfl (fun _ => ?_)
        refine T_go (S' := (134, [(0, .inr (.inr (x0))), (1, .inl (x1)), (4, .inl (x4)), (5, .inl (x5)), (6, .inl (x6))], [.inl (x4), .inr (.inr ((RH x0 9))), .inl (((128 : Int32) * x4)), .inr (.inr ((RH x0 11)))], hp σ, 0, 0)) 1 rfl ?_
        refine T_iald rfl (fun _ => ?_)
        refine T_go (S' := (141, [(0, .inr (.inr (x0))), (1, .inl (x1)), (4, .inl (x4)), (5, .inl (x5)), (6, .inl (x6))], [.inl ((128 : Int32)), .inl (((σ.1 (RH x0 9) x4.toNatClampNeg) + x6)), .inl (((128 : Int32) * x4)), .inr (.inr ((RH x0 11)))], hp σ, 0, 0)) 3 rfl ?_
        refine T_irem rfl (fun _ => ?_)
        refine T_go (S' := (143, [(0, .inr (.inr (x0))), (1, .inl (x1)), (4, .inl (x4)), (5, .inl (x5)), (6, .inl (x6))], [.inl ((((128 : Int32) * x4) + (((σ.1 (RH x0 9) x4.toNatClampNeg) + x6) - ((σ.1 (RH x0 9) x4.toNatClampNeg) + x6) / (128 : Int32) * (128 : Int32)))), .inr (.inr ((RH x0 11)))], hp σ, 0, 0)) 1 rfl ?_
        refine T_iald rfl (fun _ => ?_)
        refine T_go (S' := (146, [(7, .inl ((σ.1 (RH x0 11) (((128 : Int32) * x4) + (((σ.1 (RH x0 9) x4.toNatClampNeg) + x6) - ((σ.1 (RH x0 9) x4.toNatClampNeg) + x6) / (128 : Int32) * (128 : Int32))).toNatClampNeg))), (0, .inr (.inr (x0))), (1, .inl (x1)), (4, .inl (x4)), (5, .inl (x5)), (6, .inl (x6))], [], hp σ, 0, 0)) 1 rfl ?_
        refine T_let (Sf := fun v1 => (146, [(7, .inl (v1)), (0, .inr (.inr (x0))), (1, .inl (x1)), (4, .inl (x4)), (5, .inl (x5)), (6, .inl (x6))], [], hp σ, 0, 0)) (fun v1 => ?_)
        refine T_go (S' := (150, [(7, .inl (v1)), (0, .inr (.inr (x0))), (1, .inl (x1)), (4, .inl (x4)), (5, .inl (x5)), (6, .inl (x6))], [.inl ((16 : Int32)), .inl (v1)], hp σ, 0, 0)) 2 rfl ?_
        refine T_irem rfl (fun _ => ?_)
        refine T_go (S' := (153, [(7, .inl (v1)), (0, .inr (.inr (x0))), (1, .inl (x1)), (4, .inl (x4)), (5, .inl (x5)), (6, .inl (x6))], [.inl ((8 : Int32)), .inl ((v1 - v1 / (16 : Int32) * (16 : Int32)))], hp σ, 0, 0)) 1 rfl ?_
        refine T_icmp_ne 177 rfl rfl (fun _ => ?_) (fun _ => ?_)
        · refine T_loc (ls' := [(0, .inr (.inr (x0))), (1, .inl (x1)), (4, .inl (x4)), (5, .inl (x5)), (6, .inl (x6))]) [1, 2, 3, 4, 5] rfl ?_
          exact (ih.2.1) x0 x1 x4 x5 x6 σ
        · refine T_go (S' := (160, [(7, .inl (v1)), (0, .inr (.inr (x0))), (1, .inl (x1)), (4, .inl (x4)), (5, .inl (x5)), (6, .inl (x6))], [.inl ((16 : Int32)), .inl (v1)], hp σ, 0, 0)) 2 rfl ?_
          refine T_idiv rfl (fun _ => ?_)
          refine T_go (S' := (163, [(7, .inl (v1)), (0, .inr (.inr (x0))), (1, .inl (x1)), (4, .inl (x4)), (5, .inl (x5)), (6, .inl (x6))], [.inl ((16 : Int32)), .inl ((v1 / (16 : Int32)))], hp σ, 0, 0)) 1 rfl ?_
          refine T_irem rfl (fun _ => ?_)
          refine T_go (S' := (165, [(7, .inl (v1)), (0, .inr (.inr (x0))), (1, .inl (x1)), (4, .inl (x4)), (5, .inl (x5)), (6, .inl (x6))], [.inl (x1), .inl (((v1 / (16 : Int32)) - (v1 / (16 : Int32)) / (16 : Int32) * (16 : Int32)))], hp σ, 0, 0)) 1 rfl ?_
          refine T_icmp_ne 177 rfl rfl (fun _ => ?_) (fun _ => ?_)
          · refine T_loc (ls' := [(0, .inr (.inr (x0))), (1, .inl (x1)), (4, .inl (x4)), (5, .inl (x5)), (6, .inl (x6))]) [1, 2, 3, 4, 5] rfl ?_
            exact (ih.2.1) x0 x1 x4 x5 x6 σ
          · refine T_go (S' := (173, [(7, .inl (v1)), (0, .inr (.inr (x0))), (1, .inl (x1)), (4, .inl (x4)), (5, .inl (x5)), (6, .inl (x6))], [.inl ((2048 : Int32)), .inl (v1)], hp σ, 0, 0)) 2 rfl ?_
            refine T_idiv rfl (fun _ => ?_)
            refine T_go (S' := (179, [(7, .inl (v1)), (0, .inr (.inr (x0))), (1, .inl (x1)), (4, .inl (x4)), (5, .inl (x5)), (6, .inl (x6))], [.inl ((v1 / (2048 : Int32)))], hp σ, 0, 0)) 1 rfl ?_
            refine T_loc (ls' := [(0, .inr (.inr (x0))), (1, .inl (x1)), (4, .inl (x4)), (6, .inl (x6))]) [1, 2, 3, 5] rfl ?_
            exact (ih.2.2) x0 x1 x4 x6 (v1 / (2048 : Int32)) σ
    · intro x0 x1 x4 x5 x6 σ
      unfold f_X12_truth_L113
      refine T_go (S' := (179, [(0, .inr (.inr (x0))), (1, .inl (x1)), (4, .inl (x4)), (5, .inl (x5)), (6, .inl (x6))], [.inl (x5)], hp σ, 0, 0)) 1 rfl ?_
      refine T_loc (ls' := [(0, .inr (.inr (x0))), (1, .inl (x1)), (4, .inl (x4)), (6, .inl (x6))]) [0, 1, 2, 4] rfl ?_
      exact (ih.2.2) x0 x1 x4 x6 x5 σ
    · intro x0 x1 x4 x6 s0 σ
      unfold f_X12_truth_L113
      refine T_go (S' := (113, [(6, .inl ((x6 + (-1 : Int32)))), (5, .inl (s0)), (0, .inr (.inr (x0))), (1, .inl (x1)), (4, .inl (x4))], [], hp σ, 0, 0)) 3 rfl ?_
      refine T_loc (ls' := [(0, .inr (.inr (x0))), (1, .inl (x1)), (4, .inl (x4)), (5, .inl (s0)), (6, .inl ((x6 + (-1 : Int32))))]) [2, 3, 4, 1, 0] rfl ?_
      exact (ih.1) x0 x1 x4 s0 (x6 + (-1 : Int32)) σ
def f_X12_truth_63 (x0 : Nat) (x1 : Int32) (x2 : Int32) (σ : eMem) : Option (Int32 × eMem) :=
  if (KH x0).1 = 10 then
    if (KH (RH x0 19)).1 = 11 ∧ eix (((16 : Int32) * x2) + x1) (KH (RH x0 19)).2 = true then
      if (σ.1 (RH x0 19) (((16 : Int32) * x2) + x1).toNatClampNeg) = (-1 : Int32) then
        if (KH x0).1 = 10 then
          if (KH (RH x0 0)).1 = 11 ∧ eix x1 (KH (RH x0 0)).2 = true then
            eLet ((σ.1 (RH x0 0) x1.toNatClampNeg) : Int32) (fun v1 =>
              if (KH x0).1 = 10 then
                if (KH (RH x0 10)).1 = 11 ∧ eix (14 : Int32) (KH (RH x0 10)).2 = true then
                  eLet (((σ.1 (RH x0 10) (14 : Int32).toNatClampNeg) - (1 : Int32)) : Int32) (fun v2 =>
                    f_X12_truth_L113 1000000 (.inl (x0, x1, (14 : Int32), v1, v2)) σ
                    )
                else none
              else none
              )
          else none
        else none
      else
        if (KH x0).1 = 10 then
          if (KH (RH x0 19)).1 = 11 ∧ eix (((16 : Int32) * x2) + x1) (KH (RH x0 19)).2 = true then
            some ((σ.1 (RH x0 19) (((16 : Int32) * x2) + x1).toNatClampNeg), σ)
          else none
        else none
    else none
  else none
set_option maxHeartbeats 4000000 in
set_option maxRecDepth 20000 in
theorem s_X12_truth_63 (x0 : Nat) (x1 : Int32) (x2 : Int32) (σ : eMem) : Snd false none 1 m_X12_truth (f_X12_truth_63 x0 x1 x2 σ) (cN iI) (63, [(0, .inr (.inr (x0))), (1, .inl (x1)), (2, .inl (x2))], [], hp σ, 0, 0) := by
  unfold f_X12_truth_63
  refine T_go (S' := (64, [(0, .inr (.inr (x0))), (1, .inl (x1)), (2, .inl (x2))], [.inr (.inr (x0))], hp σ, 0, 0)) 1 rfl ?_
  refine T_getR rfl (fun _ => ?_)
  refine T_go (S' := (73, [(0, .inr (.inr (x0))), (1, .inl (x1)), (2, .inl (x2))], [.inl ((((16 : Int32) * x2) + x1)), .inr (.inr ((RH x0 19)))], hp σ, 0, 0)) 5 rfl ?_
  refine T_iald rfl (fun _ => ?_)
  refine T_go (S' := (75, [(0, .inr (.inr (x0))), (1, .inl (x1)), (2, .inl (x2))], [.inl ((-1 : Int32)), .inl ((σ.1 (RH x0 19) (((16 : Int32) * x2) + x1).toNatClampNeg))], hp σ, 0, 0)) 1 rfl ?_
  refine T_icmp_eq 90 rfl rfl (fun _ => ?_) (fun _ => ?_)
  · refine T_go (S' := (95, [(4, .inl ((14 : Int32))), (0, .inr (.inr (x0))), (1, .inl (x1)), (2, .inl (x2))], [.inr (.inr (x0))], hp σ, 0, 0)) 3 rfl ?_
    refine T_getR rfl (fun _ => ?_)
    refine T_go (S' := (99, [(4, .inl ((14 : Int32))), (0, .inr (.inr (x0))), (1, .inl (x1)), (2, .inl (x2))], [.inl (x1), .inr (.inr ((RH x0 0)))], hp σ, 0, 0)) 1 rfl ?_
    refine T_iald rfl (fun _ => ?_)
    refine T_go (S' := (102, [(5, .inl ((σ.1 (RH x0 0) x1.toNatClampNeg))), (4, .inl ((14 : Int32))), (0, .inr (.inr (x0))), (1, .inl (x1)), (2, .inl (x2))], [], hp σ, 0, 0)) 1 rfl ?_
    refine T_let (Sf := fun v1 => (102, [(5, .inl (v1)), (4, .inl ((14 : Int32))), (0, .inr (.inr (x0))), (1, .inl (x1)), (2, .inl (x2))], [], hp σ, 0, 0)) (fun v1 => ?_)
    refine T_go (S' := (103, [(5, .inl (v1)), (4, .inl ((14 : Int32))), (0, .inr (.inr (x0))), (1, .inl (x1)), (2, .inl (x2))], [.inr (.inr (x0))], hp σ, 0, 0)) 1 rfl ?_
    refine T_getR rfl (fun _ => ?_)
    refine T_go (S' := (108, [(5, .inl (v1)), (4, .inl ((14 : Int32))), (0, .inr (.inr (x0))), (1, .inl (x1)), (2, .inl (x2))], [.inl ((14 : Int32)), .inr (.inr ((RH x0 10)))], hp σ, 0, 0)) 1 rfl ?_
    refine T_iald rfl (fun _ => ?_)
    refine T_go (S' := (113, [(6, .inl (((σ.1 (RH x0 10) (14 : Int32).toNatClampNeg) - (1 : Int32)))), (5, .inl (v1)), (4, .inl ((14 : Int32))), (0, .inr (.inr (x0))), (1, .inl (x1)), (2, .inl (x2))], [], hp σ, 0, 0)) 3 rfl ?_
    refine T_let (Sf := fun v2 => (113, [(6, .inl (v2)), (5, .inl (v1)), (4, .inl ((14 : Int32))), (0, .inr (.inr (x0))), (1, .inl (x1)), (2, .inl (x2))], [], hp σ, 0, 0)) (fun v2 => ?_)
    refine T_loc (ls' := [(0, .inr (.inr (x0))), (1, .inl (x1)), (4, .inl ((14 : Int32))), (5, .inl (v1)), (6, .inl (v2))]) [3, 4, 2, 1, 0] rfl ?_
    exact (s_X12_truth_L113 1000000).1 x0 x1 (14 : Int32) v1 v2 σ
  · refine T_go (S' := (79, [(0, .inr (.inr (x0))), (1, .inl (x1)), (2, .inl (x2))], [.inr (.inr (x0))], hp σ, 0, 0)) 1 rfl ?_
    refine T_getR rfl (fun _ => ?_)
    refine T_go (S' := (88, [(0, .inr (.inr (x0))), (1, .inl (x1)), (2, .inl (x2))], [.inl ((((16 : Int32) * x2) + x1)), .inr (.inr ((RH x0 19)))], hp σ, 0, 0)) 5 rfl ?_
    refine T_iald rfl (fun _ => ?_)
    exact T_ret rfl
def f_X12_truth (x0 : Nat) (x1 : Int32) (σ : eMem) : Option (Int32 × eMem) :=
  Option.bind (f_X12_isLine x1 σ) (fun r1 =>
    if (KH x0).1 = 10 then
      Option.bind (f_X12_asks x0 r1.1 r1.2) (fun r2 =>
        if ¬ r2.1 = (0 : Int32) then
          if (KH x0).1 = 10 then
            if (KH (RH x0 1)).1 = 11 ∧ eix x1 (KH (RH x0 1)).2 = true then
              eLet ((r2.2.1 (RH x0 1) x1.toNatClampNeg) : Int32) (fun v3 =>
                if ¬ v3 = (-1 : Int32) then
                  if (KH x0).1 = 10 then
                    Option.bind (f_X12_placeOf x0 v3 x1 r2.2) (fun r4 =>
                      if r4.1 = (-1 : Int32) then
                        f_X12_truth_63 x0 x1 v3 r4.2
                      else
                        if (KH x0).1 = 10 then
                          if (KH (RH x0 13)).1 = 11 ∧ eix r4.1 (KH (RH x0 13)).2 = true then
                            Option.bind (f_X12_isOwned (r4.2.1 (RH x0 13) r4.1.toNatClampNeg) r4.2) (fun r5 =>
                              if r5.1 = (0 : Int32) then
                                f_X12_truth_63 x0 x1 v3 r5.2
                              else
                                if (KH x0).1 = 10 then
                                  if (KH (RH x0 14)).1 = 11 ∧ eix r4.1 (KH (RH x0 14)).2 = true then
                                    some ((r5.2.1 (RH x0 14) r4.1.toNatClampNeg), r5.2)
                                  else none
                                else none
                              )
                          else none
                        else none
                      )
                  else none
                else
                  if (KH x0).1 = 10 then
                    if (KH (RH x0 0)).1 = 11 ∧ eix x1 (KH (RH x0 0)).2 = true then
                      some ((r2.2.1 (RH x0 0) x1.toNatClampNeg), r2.2)
                    else none
                  else none
                )
            else none
          else none
        else
          some ((0 : Int32), r2.2)
        )
    else none
    )
set_option maxHeartbeats 4000000 in
set_option maxRecDepth 20000 in
theorem s_X12_truth (x0 : Nat) (x1 : Int32) (σ : eMem) : ∀ r, f_X12_truth x0 x1 σ = some r → Ew false 2 184 [.inr (.inr (x0)), .inl (x1)] (hp σ) (cN iI r) := by
  refine T_meth (md := m_X12_truth) (d0 := 1) (cv := (cN iI)) rfl (lb rfl) (lb rfl) ?_
  unfold f_X12_truth
  show Snd false none _ _ _ _ (0, [(0, .inr (.inr (x0))), (1, .inl (x1))], [], hp σ, 0, 0)
  refine T_go (S' := (2, [(0, .inr (.inr (x0))), (1, .inl (x1))], [.inl (x1), .inr (.inr (x0))], hp σ, 0, 0)) 2 rfl ?_
  refine T_cs (i := iI) (as := [.inl (x1)]) (rest := [.inr (.inr (x0))]) (st := [.inl (x1), .inr (.inr (x0))]) rfl (lb rfl) rfl rfl ⟨lb rfl, lb rfl, lb rfl, lb rfl⟩ (fun _ h => Ew_le (lb rfl) (s_X12_isLine x1 σ _ h)) (fun r1 => ?_)
  show Snd false none _ _ _ (cN iI) (5, [(0, .inr (.inr (x0))), (1, .inl (x1))], [.inl (r1.1), .inr (.inr (x0))], hp r1.2, 0, 0)
  refine T_cv (i := iI) (as := [.inr (.inr (x0)), .inl (r1.1)]) (rest := []) (st := [.inl (r1.1), .inr (.inr (x0))]) rfl rfl rfl ⟨lb rfl, lb rfl, lb rfl, lb rfl⟩ (fun _ h => Ew_le (lb rfl) (s_X12_asks x0 r1.1 r1.2 _ h)) (fun _ r2 => ?_)
  show Snd false none _ _ _ (cN iI) (8, [(0, .inr (.inr (x0))), (1, .inl (x1))], [.inl (r2.1)], hp r2.2, 0, 0)
  refine T_if_ne 13 rfl rfl (fun _ => ?_) (fun _ => ?_)
  · refine T_go (S' := (14, [(0, .inr (.inr (x0))), (1, .inl (x1))], [.inr (.inr (x0))], hp r2.2, 0, 0)) 1 rfl ?_
    refine T_getR rfl (fun _ => ?_)
    refine T_go (S' := (18, [(0, .inr (.inr (x0))), (1, .inl (x1))], [.inl (x1), .inr (.inr ((RH x0 1)))], hp r2.2, 0, 0)) 1 rfl ?_
    refine T_iald rfl (fun _ => ?_)
    refine T_go (S' := (20, [(2, .inl ((r2.2.1 (RH x0 1) x1.toNatClampNeg))), (0, .inr (.inr (x0))), (1, .inl (x1))], [], hp r2.2, 0, 0)) 1 rfl ?_
    refine T_let (Sf := fun v3 => (20, [(2, .inl (v3)), (0, .inr (.inr (x0))), (1, .inl (x1))], [], hp r2.2, 0, 0)) (fun v3 => ?_)
    refine T_go (S' := (22, [(2, .inl (v3)), (0, .inr (.inr (x0))), (1, .inl (x1))], [.inl ((-1 : Int32)), .inl (v3)], hp r2.2, 0, 0)) 2 rfl ?_
    refine T_icmp_ne 32 rfl rfl (fun _ => ?_) (fun _ => ?_)
    · refine T_go (S' := (35, [(2, .inl (v3)), (0, .inr (.inr (x0))), (1, .inl (x1))], [.inl (x1), .inl (v3), .inr (.inr (x0))], hp r2.2, 0, 0)) 3 rfl ?_
      refine T_cv (i := iI) (as := [.inr (.inr (x0)), .inl (v3), .inl (x1)]) (rest := []) (st := [.inl (x1), .inl (v3), .inr (.inr (x0))]) rfl rfl rfl ⟨lb rfl, lb rfl, lb rfl, lb rfl⟩ (fun _ h => Ew_le (lb rfl) (s_X12_placeOf x0 v3 x1 r2.2 _ h)) (fun _ r4 => ?_)
      show Snd false none _ _ _ (cN iI) (38, [(2, .inl (v3)), (0, .inr (.inr (x0))), (1, .inl (x1))], [.inl (r4.1)], hp r4.2, 0, 0)
      refine T_go (S' := (41, [(3, .inl (r4.1)), (2, .inl (v3)), (0, .inr (.inr (x0))), (1, .inl (x1))], [.inl ((-1 : Int32)), .inl (r4.1)], hp r4.2, 0, 0)) 3 rfl ?_
      refine T_icmp_eq 63 rfl rfl (fun _ => ?_) (fun _ => ?_)
      · refine T_loc (ls' := [(0, .inr (.inr (x0))), (1, .inl (x1)), (2, .inl (v3))]) [2, 3, 1] rfl ?_
        exact s_X12_truth_63 x0 x1 v3 r4.2
      · refine T_go (S' := (45, [(3, .inl (r4.1)), (2, .inl (v3)), (0, .inr (.inr (x0))), (1, .inl (x1))], [.inr (.inr (x0))], hp r4.2, 0, 0)) 1 rfl ?_
        refine T_getR rfl (fun _ => ?_)
        refine T_go (S' := (49, [(3, .inl (r4.1)), (2, .inl (v3)), (0, .inr (.inr (x0))), (1, .inl (x1))], [.inl (r4.1), .inr (.inr ((RH x0 13)))], hp r4.2, 0, 0)) 1 rfl ?_
        refine T_iald rfl (fun _ => ?_)
        refine T_cs (i := iI) (as := [.inl ((r4.2.1 (RH x0 13) r4.1.toNatClampNeg))]) (rest := []) (st := [.inl ((r4.2.1 (RH x0 13) r4.1.toNatClampNeg))]) rfl (lb rfl) rfl rfl ⟨lb rfl, lb rfl, lb rfl, lb rfl⟩ (fun _ h => Ew_le (lb rfl) (s_X12_isOwned (r4.2.1 (RH x0 13) r4.1.toNatClampNeg) r4.2 _ h)) (fun r5 => ?_)
        show Snd false none _ _ _ (cN iI) (53, [(3, .inl (r4.1)), (2, .inl (v3)), (0, .inr (.inr (x0))), (1, .inl (x1))], [.inl (r5.1)], hp r5.2, 0, 0)
        refine T_if_eq 63 rfl rfl (fun _ => ?_) (fun _ => ?_)
        · refine T_loc (ls' := [(0, .inr (.inr (x0))), (1, .inl (x1)), (2, .inl (v3))]) [2, 3, 1] rfl ?_
          exact s_X12_truth_63 x0 x1 v3 r5.2
        · refine T_go (S' := (57, [(3, .inl (r4.1)), (2, .inl (v3)), (0, .inr (.inr (x0))), (1, .inl (x1))], [.inr (.inr (x0))], hp r5.2, 0, 0)) 1 rfl ?_
          refine T_getR rfl (fun _ => ?_)
          refine T_go (S' := (61, [(3, .inl (r4.1)), (2, .inl (v3)), (0, .inr (.inr (x0))), (1, .inl (x1))], [.inl (r4.1), .inr (.inr ((RH x0 14)))], hp r5.2, 0, 0)) 1 rfl ?_
          refine T_iald rfl (fun _ => ?_)
          exact T_ret rfl
    · refine T_go (S' := (26, [(2, .inl (v3)), (0, .inr (.inr (x0))), (1, .inl (x1))], [.inr (.inr (x0))], hp r2.2, 0, 0)) 1 rfl ?_
      refine T_getR rfl (fun _ => ?_)
      refine T_go (S' := (30, [(2, .inl (v3)), (0, .inr (.inr (x0))), (1, .inl (x1))], [.inl (x1), .inr (.inr ((RH x0 0)))], hp r2.2, 0, 0)) 1 rfl ?_
      refine T_iald rfl (fun _ => ?_)
      exact T_ret rfl
  · refine T_go (S' := (12, [(0, .inr (.inr (x0))), (1, .inl (x1))], [.inl ((0 : Int32))], hp r2.2, 0, 0)) 1 rfl ?_
    exact T_ret rfl
def f_X12_isCoherent_L9 : Nat → (Nat × Int32 × Int32 ⊕ (Nat × Int32 × Int32 × Int32 ⊕ (Nat × Int32 × Int32 × Int32 ⊕ (Nat × Int32 × Int32 × Int32 × Int32 ⊕ (Nat × Int32 × Int32 ⊕ (Nat × Int32 × Int32 ⊕ (Nat × Int32 × Int32 × Int32))))))) → eMem → Option (Int32 × eMem)
  | 0, _, _ => none
  | n + 1, .inl (x0, x1, x2), σ =>
    if (16 : Int32) ≤ x2 then
      if eB x1 = true then some (x1, σ) else none
    else
      f_X12_isCoherent_L9 n (.inr (.inl (x0, x1, x2, (0 : Int32)))) σ
  | n + 1, .inr (.inl (x0, x1, x2, x3)), σ =>
    if (16 : Int32) ≤ x3 then
      f_X12_isCoherent_L9 n (.inl (x0, x1, (x2 + (1 : Int32)))) σ
    else
      if ¬ (4 : Int32) = 0 then
        if ¬ (4 : Int32) = 0 then
          if (x2 / (4 : Int32)) = (x3 / (4 : Int32)) then
            f_X12_isCoherent_L9 n (.inr (.inr (.inl (x0, x1, x2, x3)))) σ
          else
            if (KH x0).1 = 10 then
              if (KH (RH x0 12)).1 = 11 ∧ eix x2 (KH (RH x0 12)).2 = true then
                if (KH x0).1 = 10 then
                  if (KH (RH x0 12)).1 = 11 ∧ eix x3 (KH (RH x0 12)).2 = true then
                    if ¬ (σ.1 (RH x0 12) x2.toNatClampNeg) = (σ.1 (RH x0 12) x3.toNatClampNeg) then
                      f_X12_isCoherent_L9 n (.inr (.inr (.inl (x0, x1, x2, x3)))) σ
                    else
                      if (KH x0).1 = 10 then
                        if (KH (RH x0 13)).1 = 11 ∧ eix x2 (KH (RH x0 13)).2 = true then
                          if (σ.1 (RH x0 13) x2.toNatClampNeg) = (0 : Int32) then
                            f_X12_isCoherent_L9 n (.inr (.inr (.inl (x0, x1, x2, x3)))) σ
                          else
                            if (KH x0).1 = 10 then
                              if (KH (RH x0 13)).1 = 11 ∧ eix x3 (KH (RH x0 13)).2 = true then
                                if (σ.1 (RH x0 13) x3.toNatClampNeg) = (0 : Int32) then
                                  f_X12_isCoherent_L9 n (.inr (.inr (.inl (x0, x1, x2, x3)))) σ
                                else
                                  if (KH x0).1 = 10 then
                                    if (KH (RH x0 13)).1 = 11 ∧ eix x2 (KH (RH x0 13)).2 = true then
                                      Option.bind (f_X12_isWaiting (σ.1 (RH x0 13) x2.toNatClampNeg) σ) (fun r1 =>
                                        if ¬ r1.1 = (0 : Int32) then
                                          f_X12_isCoherent_L9 n (.inr (.inr (.inl (x0, x1, x2, x3)))) r1.2
                                        else
                                          if (KH x0).1 = 10 then
                                            if (KH (RH x0 13)).1 = 11 ∧ eix x3 (KH (RH x0 13)).2 = true then
                                              Option.bind (f_X12_isWaiting (r1.2.1 (RH x0 13) x3.toNatClampNeg) r1.2) (fun r2 =>
                                                if ¬ r2.1 = (0 : Int32) then
                                                  f_X12_isCoherent_L9 n (.inr (.inr (.inl (x0, x1, x2, x3)))) r2.2
                                                else
                                                  f_X12_isCoherent_L9 n (.inr (.inr (.inr (.inl (x0, x1, x2, x3, (1 : Int32)))))) r2.2
                                                )
                                            else none
                                          else none
                                        )
                                    else none
                                  else none
                              else none
                            else none
                        else none
                      else none
                  else none
                else none
              else none
            else none
        else none
      else none
  | n + 1, .inr (.inr (.inl (x0, x1, x2, x3))), σ =>
    f_X12_isCoherent_L9 n (.inr (.inr (.inr (.inl (x0, x1, x2, x3, (0 : Int32)))))) σ
  | n + 1, .inr (.inr (.inr (.inl (x0, x1, x2, x3, s0)))), σ =>
    if x1 = (0 : Int32) then
      f_X12_isCoherent_L9 n (.inr (.inr (.inr (.inr (.inr (.inl (x0, x2, x3))))))) σ
    else
      if s0 = (0 : Int32) then
        f_X12_isCoherent_L9 n (.inr (.inr (.inr (.inr (.inl (x0, x2, x3)))))) σ
      else
        if (KH x0).1 = 10 then
          if (KH (RH x0 13)).1 = 11 ∧ eix x2 (KH (RH x0 13)).2 = true then
            Option.bind (f_X12_isOwned (σ.1 (RH x0 13) x2.toNatClampNeg) σ) (fun r1 =>
              if ¬ r1.1 = (0 : Int32) then
                f_X12_isCoherent_L9 n (.inr (.inr (.inr (.inr (.inr (.inl (x0, x2, x3))))))) r1.2
              else
                if (KH x0).1 = 10 then
                  if (KH (RH x0 14)).1 = 11 ∧ eix x2 (KH (RH x0 14)).2 = true then
                    if (KH x0).1 = 10 then
                      if (KH (RH x0 14)).1 = 11 ∧ eix x3 (KH (RH x0 14)).2 = true then
                        if ¬ (r1.2.1 (RH x0 14) x2.toNatClampNeg) = (r1.2.1 (RH x0 14) x3.toNatClampNeg) then
                          f_X12_isCoherent_L9 n (.inr (.inr (.inr (.inr (.inr (.inl (x0, x2, x3))))))) r1.2
                        else
                          f_X12_isCoherent_L9 n (.inr (.inr (.inr (.inr (.inl (x0, x2, x3)))))) r1.2
                      else none
                    else none
                  else none
                else none
              )
          else none
        else none
  | n + 1, .inr (.inr (.inr (.inr (.inl (x0, x2, x3))))), σ =>
    f_X12_isCoherent_L9 n (.inr (.inr (.inr (.inr (.inr (.inr ((x0, x2, x3, (1 : Int32))))))))) σ
  | n + 1, .inr (.inr (.inr (.inr (.inr (.inl (x0, x2, x3)))))), σ =>
    f_X12_isCoherent_L9 n (.inr (.inr (.inr (.inr (.inr (.inr ((x0, x2, x3, (0 : Int32))))))))) σ
  | n + 1, .inr (.inr (.inr (.inr (.inr (.inr ((x0, x2, x3, s0))))))), σ =>
    f_X12_isCoherent_L9 n (.inr (.inl (x0, s0, x2, (x3 + (1 : Int32))))) σ
set_option maxHeartbeats 4000000 in
set_option maxRecDepth 20000 in
theorem s_X12_isCoherent_L9 : ∀ (n : Nat), (∀ (x0 : Nat) (x1 : Int32) (x2 : Int32) (σ : eMem), Snd false none 1 m_X12_isCoherent (f_X12_isCoherent_L9 n (.inl (x0, x1, x2)) σ) (cN iI) (9, [(0, .inr (.inr (x0))), (1, .inl (x1)), (2, .inl (x2))], [], hp σ, 0, 0)) ∧ (∀ (x0 : Nat) (x1 : Int32) (x2 : Int32) (x3 : Int32) (σ : eMem), Snd false none 1 m_X12_isCoherent (f_X12_isCoherent_L9 n (.inr (.inl (x0, x1, x2, x3))) σ) (cN iI) (17, [(0, .inr (.inr (x0))), (1, .inl (x1)), (2, .inl (x2)), (3, .inl (x3))], [], hp σ, 0, 0)) ∧ (∀ (x0 : Nat) (x1 : Int32) (x2 : Int32) (x3 : Int32) (σ : eMem), Snd false none 1 m_X12_isCoherent (f_X12_isCoherent_L9 n (.inr (.inr (.inl (x0, x1, x2, x3)))) σ) (cN iI) (93, [(0, .inr (.inr (x0))), (1, .inl (x1)), (2, .inl (x2)), (3, .inl (x3))], [], hp σ, 0, 0)) ∧ (∀ (x0 : Nat) (x1 : Int32) (x2 : Int32) (x3 : Int32) (s0 : Int32) (σ : eMem), Snd false none 1 m_X12_isCoherent (f_X12_isCoherent_L9 n (.inr (.inr (.inr (.inl (x0, x1, x2, x3, s0))))) σ) (cN iI) (94, [(0, .inr (.inr (x0))), (1, .inl (x1)), (2, .inl (x2)), (3, .inl (x3))], [.inl (s0)], hp σ, 0, 0)) ∧ (∀ (x0 : Nat) (x2 : Int32) (x3 : Int32) (σ : eMem), Snd false none 1 m_X12_isCoherent (f_X12_isCoherent_L9 n (.inr (.inr (.inr (.inr (.inl (x0, x2, x3)))))) σ) (cN iI) (132, [(0, .inr (.inr (x0))), (2, .inl (x2)), (3, .inl (x3))], [], hp σ, 0, 0)) ∧ (∀ (x0 : Nat) (x2 : Int32) (x3 : Int32) (σ : eMem), Snd false none 1 m_X12_isCoherent (f_X12_isCoherent_L9 n (.inr (.inr (.inr (.inr (.inr (.inl (x0, x2, x3))))))) σ) (cN iI) (136, [(0, .inr (.inr (x0))), (2, .inl (x2)), (3, .inl (x3))], [], hp σ, 0, 0)) ∧ (∀ (x0 : Nat) (x2 : Int32) (x3 : Int32) (s0 : Int32) (σ : eMem), Snd false none 1 m_X12_isCoherent (f_X12_isCoherent_L9 n (.inr (.inr (.inr (.inr (.inr (.inr ((x0, x2, x3, s0)))))))) σ) (cN iI) (137, [(0, .inr (.inr (x0))), (2, .inl (x2)), (3, .inl (x3))], [.inl (s0)], hp σ, 0, 0)) := by
  intro n
  induction n with
  | zero => exact ⟨fun _ _ _ _ => T_none, fun _ _ _ _ _ => T_none, fun _ _ _ _ _ => T_none, fun _ _ _ _ _ _ => T_none, fun _ _ _ _ => T_none, fun _ _ _ _ => T_none, fun _ _ _ _ _ => T_none⟩
  | succ n ih =>
    refine ⟨?_, ?_, ?_, ?_, ?_, ?_, ?_⟩
    · intro x0 x1 x2 σ
      unfold f_X12_isCoherent_L9
      refine T_go (S' := (12, [(0, .inr (.inr (x0))), (1, .inl (x1)), (2, .inl (x2))], [.inl ((16 : Int32)), .inl (x2)], hp σ, 0, 0)) 2 rfl ?_
      refine T_icmp_ge 150 rfl rfl (fun _ => ?_) (fun _ => ?_)
      · refine T_go (S' := (151, [(0, .inr (.inr (x0))), (1, .inl (x1)), (2, .inl (x2))], [.inl (x1)], hp σ, 0, 0)) 1 rfl ?_
        exact T_chkr rfl
      · refine T_go (S' := (17, [(3, .inl ((0 : Int32))), (0, .inr (.inr (x0))), (1, .inl (x1)), (2, .inl (x2))], [], hp σ, 0, 0)) 2 rfl ?_
        refine T_loc (ls' := [(0, .inr (.inr (x0))), (1, .inl (x1)), (2, .inl (x2)), (3, .inl ((0 : Int32)))]) [1, 2, 3, 0] rfl ?_
        exact (ih.2.1) x0 x1 x2 (0 : Int32) σ
    · intro x0 x1 x2 x3 σ
      unfold f_X12_isCoherent_L9
      refine T_go (S' := (20, [(0, .inr (.inr (x0))), (1, .inl (x1)), (2, .inl (x2)), (3, .inl (x3))], [.inl ((16 : Int32)), .inl (x3)], hp σ, 0, 0)) 2 rfl ?_
      refine T_icmp_ge 144 rfl rfl (fun _ => ?_) (fun _ => ?_)
      · refine T_go (S' := (9, [(2, .inl ((x2 + (1 : Int32)))), (0, .inr (.inr (x0))), (1, .inl (x1)), (3, .inl (x3))], [], hp σ, 0, 0)) 2 rfl ?_
        refine T_loc (ls' := [(0, .inr (.inr (x0))), (1, .inl (x1)), (2, .inl ((x2 + (1 : Int32))))]) [1, 2, 0] rfl ?_
        exact (ih.1) x0 x1 (x2 + (1 : Int32)) σ
      · refine T_go (S' := (25, [(0, .inr (.inr (x0))), (1, .inl (x1)), (2, .inl (x2)), (3, .inl (x3))], [.inl ((4 : Int32)), .inl (x2)], hp σ, 0, 0)) 2 rfl ?_
        refine T_idiv rfl (fun _ => ?_)
        refine T_go (S' := (28, [(0, .inr (.inr (x0))), (1, .inl (x1)), (2, .inl (x2)), (3, .inl (x3))], [.inl ((4 : Int32)), .inl (x3), .inl ((x2 / (4 : Int32)))], hp σ, 0, 0)) 2 rfl ?_
        refine T_idiv rfl (fun _ => ?_)
        refine T_icmp_eq 93 rfl rfl (fun _ => ?_) (fun _ => ?_)
        · refine T_loc (ls' := [(0, .inr (.inr (x0))), (1, .inl (x1)), (2, .inl (x2)), (3, .inl (x3))]) [0, 1, 2, 3] rfl ?_
          exact (ih.2.2.1) x0 x1 x2 x3 σ
        · refine T_go (S' := (33, [(0, .inr (.inr (x0))), (1, .inl (x1)), (2, .inl (x2)), (3, .inl (x3))], [.inr (.inr (x0))], hp σ, 0, 0)) 1 rfl ?_
          refine T_getR rfl (fun _ => ?_)
          refine T_go (S' := (37, [(0, .inr (.inr (x0))), (1, .inl (x1)), (2, .inl (x2)), (3, .inl (x3))], [.inl (x2), .inr (.inr ((RH x0 12)))], hp σ, 0, 0)) 1 rfl ?_
          refine T_iald rfl (fun _ => ?_)
          refine T_go (S' := (39, [(0, .inr (.inr (x0))), (1, .inl (x1)), (2, .inl (x2)), (3, .inl (x3))], [.inr (.inr (x0)), .inl ((σ.1 (RH x0 12) x2.toNatClampNeg))], hp σ, 0, 0)) 1 rfl ?_
          refine T_getR rfl (fun _ => ?_)
          refine T_go (S' := (43, [(0, .inr (.inr (x0))), (1, .inl (x1)), (2, .inl (x2)), (3, .inl (x3))], [.inl (x3), .inr (.inr ((RH x0 12))), .inl ((σ.1 (RH x0 12) x2.toNatClampNeg))], hp σ, 0, 0)) 1 rfl ?_
          refine T_iald rfl (fun _ => ?_)
          refine T_icmp_ne 93 rfl rfl (fun _ => ?_) (fun _ => ?_)
          · refine T_loc (ls' := [(0, .inr (.inr (x0))), (1, .inl (x1)), (2, .inl (x2)), (3, .inl (x3))]) [0, 1, 2, 3] rfl ?_
            exact (ih.2.2.1) x0 x1 x2 x3 σ
          · refine T_go (S' := (48, [(0, .inr (.inr (x0))), (1, .inl (x1)), (2, .inl (x2)), (3, .inl (x3))], [.inr (.inr (x0))], hp σ, 0, 0)) 1 rfl ?_
            refine T_getR rfl (fun _ => ?_)
            refine T_go (S' := (52, [(0, .inr (.inr (x0))), (1, .inl (x1)), (2, .inl (x2)), (3, .inl (x3))], [.inl (x2), .inr (.inr ((RH x0 13)))], hp σ, 0, 0)) 1 rfl ?_
            refine T_iald rfl (fun _ => ?_)
            refine T_if_eq 93 rfl rfl (fun _ => ?_) (fun _ => ?_)
            · refine T_loc (ls' := [(0, .inr (.inr (x0))), (1, .inl (x1)), (2, .inl (x2)), (3, .inl (x3))]) [0, 1, 2, 3] rfl ?_
              exact (ih.2.2.1) x0 x1 x2 x3 σ
            · refine T_go (S' := (57, [(0, .inr (.inr (x0))), (1, .inl (x1)), (2, .inl (x2)), (3, .inl (x3))], [.inr (.inr (x0))], hp σ, 0, 0)) 1 rfl ?_
              refine T_getR rfl (fun _ => ?_)
              refine T_go (S' := (61, [(0, .inr (.inr (x0))), (1, .inl (x1)), (2, .inl (x2)), (3, .inl (x3))], [.inl (x3), .inr (.inr ((RH x0 13)))], hp σ, 0, 0)) 1 rfl ?_
              refine T_iald rfl (fun _ => ?_)
              refine T_if_eq 93 rfl rfl (fun _ => ?_) (fun _ => ?_)
              · refine T_loc (ls' := [(0, .inr (.inr (x0))), (1, .inl (x1)), (2, .inl (x2)), (3, .inl (x3))]) [0, 1, 2, 3] rfl ?_
                exact (ih.2.2.1) x0 x1 x2 x3 σ
              · refine T_go (S' := (66, [(0, .inr (.inr (x0))), (1, .inl (x1)), (2, .inl (x2)), (3, .inl (x3))], [.inr (.inr (x0))], hp σ, 0, 0)) 1 rfl ?_
                refine T_getR rfl (fun _ => ?_)
                refine T_go (S' := (70, [(0, .inr (.inr (x0))), (1, .inl (x1)), (2, .inl (x2)), (3, .inl (x3))], [.inl (x2), .inr (.inr ((RH x0 13)))], hp σ, 0, 0)) 1 rfl ?_
                refine T_iald rfl (fun _ => ?_)
                refine T_cs (i := iI) (as := [.inl ((σ.1 (RH x0 13) x2.toNatClampNeg))]) (rest := []) (st := [.inl ((σ.1 (RH x0 13) x2.toNatClampNeg))]) rfl (lb rfl) rfl rfl ⟨lb rfl, lb rfl, lb rfl, lb rfl⟩ (fun _ h => Ew_le (lb rfl) (s_X12_isWaiting (σ.1 (RH x0 13) x2.toNatClampNeg) σ _ h)) (fun r1 => ?_)
                show Snd false none _ _ _ (cN iI) (74, [(0, .inr (.inr (x0))), (1, .inl (x1)), (2, .inl (x2)), (3, .inl (x3))], [.inl (r1.1)], hp r1.2, 0, 0)
                refine T_if_ne 93 rfl rfl (fun _ => ?_) (fun _ => ?_)
                · refine T_loc (ls' := [(0, .inr (.inr (x0))), (1, .inl (x1)), (2, .inl (x2)), (3, .inl (x3))]) [0, 1, 2, 3] rfl ?_
                  exact (ih.2.2.1) x0 x1 x2 x3 r1.2
                · refine T_go (S' := (78, [(0, .inr (.inr (x0))), (1, .inl (x1)), (2, .inl (x2)), (3, .inl (x3))], [.inr (.inr (x0))], hp r1.2, 0, 0)) 1 rfl ?_
                  refine T_getR rfl (fun _ => ?_)
                  refine T_go (S' := (82, [(0, .inr (.inr (x0))), (1, .inl (x1)), (2, .inl (x2)), (3, .inl (x3))], [.inl (x3), .inr (.inr ((RH x0 13)))], hp r1.2, 0, 0)) 1 rfl ?_
                  refine T_iald rfl (fun _ => ?_)
                  refine T_cs (i := iI) (as := [.inl ((r1.2.1 (RH x0 13) x3.toNatClampNeg))]) (rest := []) (st := [.inl ((r1.2.1 (RH x0 13) x3.toNatClampNeg))]) rfl (lb rfl) rfl rfl ⟨lb rfl, lb rfl, lb rfl, lb rfl⟩ (fun _ h => Ew_le (lb rfl) (s_X12_isWaiting (r1.2.1 (RH x0 13) x3.toNatClampNeg) r1.2 _ h)) (fun r2 => ?_)
                  show Snd false none _ _ _ (cN iI) (86, [(0, .inr (.inr (x0))), (1, .inl (x1)), (2, .inl (x2)), (3, .inl (x3))], [.inl (r2.1)], hp r2.2, 0, 0)
                  refine T_if_ne 93 rfl rfl (fun _ => ?_) (fun _ => ?_)
                  · refine T_loc (ls' := [(0, .inr (.inr (x0))), (1, .inl (x1)), (2, .inl (x2)), (3, .inl (x3))]) [0, 1, 2, 3] rfl ?_
                    exact (ih.2.2.1) x0 x1 x2 x3 r2.2
                  · refine T_go (S' := (94, [(0, .inr (.inr (x0))), (1, .inl (x1)), (2, .inl (x2)), (3, .inl (x3))], [.inl ((1 : Int32))], hp r2.2, 0, 0)) 2 rfl ?_
                    refine T_loc (ls' := [(0, .inr (.inr (x0))), (1, .inl (x1)), (2, .inl (x2)), (3, .inl (x3))]) [0, 1, 2, 3] rfl ?_
                    exact (ih.2.2.2.1) x0 x1 x2 x3 (1 : Int32) r2.2
    · intro x0 x1 x2 x3 σ
      unfold f_X12_isCoherent_L9
      refine T_go (S' := (94, [(0, .inr (.inr (x0))), (1, .inl (x1)), (2, .inl (x2)), (3, .inl (x3))], [.inl ((0 : Int32))], hp σ, 0, 0)) 1 rfl ?_
      refine T_loc (ls' := [(0, .inr (.inr (x0))), (1, .inl (x1)), (2, .inl (x2)), (3, .inl (x3))]) [0, 1, 2, 3] rfl ?_
      exact (ih.2.2.2.1) x0 x1 x2 x3 (0 : Int32) σ
    · intro x0 x1 x2 x3 s0 σ
      unfold f_X12_isCoherent_L9
      refine T_go (S' := (97, [(4, .inl (s0)), (0, .inr (.inr (x0))), (1, .inl (x1)), (2, .inl (x2)), (3, .inl (x3))], [.inl (x1)], hp σ, 0, 0)) 2 rfl ?_
      refine T_if_eq 136 rfl rfl (fun _ => ?_) (fun _ => ?_)
      · refine T_loc (ls' := [(0, .inr (.inr (x0))), (2, .inl (x2)), (3, .inl (x3))]) [1, 3, 4] rfl ?_
        exact (ih.2.2.2.2.2.1) x0 x2 x3 σ
      · refine T_go (S' := (102, [(4, .inl (s0)), (0, .inr (.inr (x0))), (1, .inl (x1)), (2, .inl (x2)), (3, .inl (x3))], [.inl (s0)], hp σ, 0, 0)) 1 rfl ?_
        refine T_if_eq 132 rfl rfl (fun _ => ?_) (fun _ => ?_)
        · refine T_loc (ls' := [(0, .inr (.inr (x0))), (2, .inl (x2)), (3, .inl (x3))]) [1, 3, 4] rfl ?_
          exact (ih.2.2.2.2.1) x0 x2 x3 σ
        · refine T_go (S' := (106, [(4, .inl (s0)), (0, .inr (.inr (x0))), (1, .inl (x1)), (2, .inl (x2)), (3, .inl (x3))], [.inr (.inr (x0))], hp σ, 0, 0)) 1 rfl ?_
          refine T_getR rfl (fun _ => ?_)
          refine T_go (S' := (110, [(4, .inl (s0)), (0, .inr (.inr (x0))), (1, .inl (x1)), (2, .inl (x2)), (3, .inl (x3))], [.inl (x2), .inr (.inr ((RH x0 13)))], hp σ, 0, 0)) 1 rfl ?_
          refine T_iald rfl (fun _ => ?_)
          refine T_cs (i := iI) (as := [.inl ((σ.1 (RH x0 13) x2.toNatClampNeg))]) (rest := []) (st := [.inl ((σ.1 (RH x0 13) x2.toNatClampNeg))]) rfl (lb rfl) rfl rfl ⟨lb rfl, lb rfl, lb rfl, lb rfl⟩ (fun _ h => Ew_le (lb rfl) (s_X12_isOwned (σ.1 (RH x0 13) x2.toNatClampNeg) σ _ h)) (fun r1 => ?_)
          show Snd false none _ _ _ (cN iI) (114, [(4, .inl (s0)), (0, .inr (.inr (x0))), (1, .inl (x1)), (2, .inl (x2)), (3, .inl (x3))], [.inl (r1.1)], hp r1.2, 0, 0)
          refine T_if_ne 136 rfl rfl (fun _ => ?_) (fun _ => ?_)
          · refine T_loc (ls' := [(0, .inr (.inr (x0))), (2, .inl (x2)), (3, .inl (x3))]) [1, 3, 4] rfl ?_
            exact (ih.2.2.2.2.2.1) x0 x2 x3 r1.2
          · refine T_go (S' := (118, [(4, .inl (s0)), (0, .inr (.inr (x0))), (1, .inl (x1)), (2, .inl (x2)), (3, .inl (x3))], [.inr (.inr (x0))], hp r1.2, 0, 0)) 1 rfl ?_
            refine T_getR rfl (fun _ => ?_)
            refine T_go (S' := (122, [(4, .inl (s0)), (0, .inr (.inr (x0))), (1, .inl (x1)), (2, .inl (x2)), (3, .inl (x3))], [.inl (x2), .inr (.inr ((RH x0 14)))], hp r1.2, 0, 0)) 1 rfl ?_
            refine T_iald rfl (fun _ => ?_)
            refine T_go (S' := (124, [(4, .inl (s0)), (0, .inr (.inr (x0))), (1, .inl (x1)), (2, .inl (x2)), (3, .inl (x3))], [.inr (.inr (x0)), .inl ((r1.2.1 (RH x0 14) x2.toNatClampNeg))], hp r1.2, 0, 0)) 1 rfl ?_
            refine T_getR rfl (fun _ => ?_)
            refine T_go (S' := (128, [(4, .inl (s0)), (0, .inr (.inr (x0))), (1, .inl (x1)), (2, .inl (x2)), (3, .inl (x3))], [.inl (x3), .inr (.inr ((RH x0 14))), .inl ((r1.2.1 (RH x0 14) x2.toNatClampNeg))], hp r1.2, 0, 0)) 1 rfl ?_
            refine T_iald rfl (fun _ => ?_)
            refine T_icmp_ne 136 rfl rfl (fun _ => ?_) (fun _ => ?_)
            · refine T_loc (ls' := [(0, .inr (.inr (x0))), (2, .inl (x2)), (3, .inl (x3))]) [1, 3, 4] rfl ?_
              exact (ih.2.2.2.2.2.1) x0 x2 x3 r1.2
            · refine T_loc (ls' := [(0, .inr (.inr (x0))), (2, .inl (x2)), (3, .inl (x3))]) [1, 3, 4] rfl ?_
              exact (ih.2.2.2.2.1) x0 x2 x3 r1.2
    · intro x0 x2 x3 σ
      unfold f_X12_isCoherent_L9
      refine T_go (S' := (137, [(0, .inr (.inr (x0))), (2, .inl (x2)), (3, .inl (x3))], [.inl ((1 : Int32))], hp σ, 0, 0)) 2 rfl ?_
      refine T_loc (ls' := [(0, .inr (.inr (x0))), (2, .inl (x2)), (3, .inl (x3))]) [0, 1, 2] rfl ?_
      exact (ih.2.2.2.2.2.2) x0 x2 x3 (1 : Int32) σ
    · intro x0 x2 x3 σ
      unfold f_X12_isCoherent_L9
      refine T_go (S' := (137, [(0, .inr (.inr (x0))), (2, .inl (x2)), (3, .inl (x3))], [.inl ((0 : Int32))], hp σ, 0, 0)) 1 rfl ?_
      refine T_loc (ls' := [(0, .inr (.inr (x0))), (2, .inl (x2)), (3, .inl (x3))]) [0, 1, 2] rfl ?_
      exact (ih.2.2.2.2.2.2) x0 x2 x3 (0 : Int32) σ
    · intro x0 x2 x3 s0 σ
      unfold f_X12_isCoherent_L9
      refine T_go (S' := (17, [(3, .inl ((x3 + (1 : Int32)))), (1, .inl (s0)), (0, .inr (.inr (x0))), (2, .inl (x2))], [], hp σ, 0, 0)) 3 rfl ?_
      refine T_loc (ls' := [(0, .inr (.inr (x0))), (1, .inl (s0)), (2, .inl (x2)), (3, .inl ((x3 + (1 : Int32))))]) [2, 1, 3, 0] rfl ?_
      exact (ih.2.1) x0 s0 x2 (x3 + (1 : Int32)) σ
def f_X12_isCoherent (x0 : Nat) (σ : eMem) : Option (Int32 × eMem) :=
  if (KH x0).1 = 10 then eLet ((eup σ.1 x0 32 (0 : Int32), σ.2) : eMem) (fun σ1 =>
    f_X12_isCoherent_L9 1000000 (.inl (x0, (1 : Int32), (0 : Int32))) σ1
    ) else none
set_option maxHeartbeats 4000000 in
set_option maxRecDepth 20000 in
theorem s_X12_isCoherent (x0 : Nat) (σ : eMem) : ∀ r, f_X12_isCoherent x0 σ = some r → Ew false 2 185 [.inr (.inr (x0))] (hp σ) (cN iI r) := by
  refine T_meth (md := m_X12_isCoherent) (d0 := 1) (cv := (cN iI)) rfl (lb rfl) (lb rfl) ?_
  unfold f_X12_isCoherent
  show Snd false none _ _ _ _ (0, [(0, .inr (.inr (x0)))], [], hp σ, 0, 0)
  refine T_go (S' := (2, [(0, .inr (.inr (x0)))], [.inl ((0 : Int32)), .inr (.inr (x0))], hp σ, 0, 0)) 2 rfl ?_
  refine T_putI rfl (fun _ => ?_)
  refine T_let (Sf := fun σ1 => (5, [(0, .inr (.inr (x0)))], [], hp σ1, 0, 0)) (fun σ1 => ?_)
  refine T_go (S' := (9, [(2, .inl ((0 : Int32))), (1, .inl ((1 : Int32))), (0, .inr (.inr (x0)))], [], hp σ1, 0, 0)) 4 rfl ?_
  refine T_loc (ls' := [(0, .inr (.inr (x0))), (1, .inl ((1 : Int32))), (2, .inl ((0 : Int32)))]) [2, 1, 0] rfl ?_
  exact (s_X12_isCoherent_L9 1000000).1 x0 (1 : Int32) (0 : Int32) σ1
def f_X12_counter_32 (s0 : Int32) (σ : eMem) : Option (Int32 × eMem) :=
  some (s0, σ)
set_option maxHeartbeats 4000000 in
set_option maxRecDepth 20000 in
theorem s_X12_counter_32 (s0 : Int32) (σ : eMem) : Snd false none 1 m_X12_counter (f_X12_counter_32 s0 σ) (cN iI) (32, [], [.inl (s0)], hp σ, 0, 0) := by
  unfold f_X12_counter_32
  exact T_ret rfl
def f_X12_counter_16 (x0 : Nat) (x1 : Int32) (s0 : Nat) (s1 : Int32) (σ : eMem) : Option (Int32 × eMem) :=
  if (KH s0).1 = 10 then
    Option.bind (f_X12_asks s0 s1 σ) (fun r1 =>
      if r1.1 = (0 : Int32) then
        f_X12_counter_32 (0 : Int32) r1.2
      else
        if (KH x0).1 = 10 then
          if (KH (RH x0 31)).1 = 11 ∧ eix x1 (KH (RH x0 31)).2 = true then
            f_X12_counter_32 (r1.2.1 (RH x0 31) x1.toNatClampNeg) r1.2
          else none
        else none
      )
  else none
set_option maxHeartbeats 4000000 in
set_option maxRecDepth 20000 in
theorem s_X12_counter_16 (x0 : Nat) (x1 : Int32) (s0 : Nat) (s1 : Int32) (σ : eMem) : Snd false none 1 m_X12_counter (f_X12_counter_16 x0 x1 s0 s1 σ) (cN iI) (16, [(0, .inr (.inr (x0))), (1, .inl (x1))], [.inl (s1), .inr (.inr (s0))], hp σ, 0, 0) := by
  unfold f_X12_counter_16
  refine T_cv (i := iI) (as := [.inr (.inr (s0)), .inl (s1)]) (rest := []) (st := [.inl (s1), .inr (.inr (s0))]) rfl rfl rfl ⟨lb rfl, lb rfl, lb rfl, lb rfl⟩ (fun _ h => Ew_le (lb rfl) (s_X12_asks s0 s1 σ _ h)) (fun _ r1 => ?_)
  show Snd false none _ _ _ (cN iI) (19, [(0, .inr (.inr (x0))), (1, .inl (x1))], [.inl (r1.1)], hp r1.2, 0, 0)
  refine T_if_eq 31 rfl rfl (fun _ => ?_) (fun _ => ?_)
  · refine T_go (S' := (32, [(0, .inr (.inr (x0))), (1, .inl (x1))], [.inl ((0 : Int32))], hp r1.2, 0, 0)) 1 rfl ?_
    refine T_loc (ls' := []) [] rfl ?_
    exact s_X12_counter_32 (0 : Int32) r1.2
  · refine T_go (S' := (23, [(0, .inr (.inr (x0))), (1, .inl (x1))], [.inr (.inr (x0))], hp r1.2, 0, 0)) 1 rfl ?_
    refine T_getR rfl (fun _ => ?_)
    refine T_go (S' := (27, [(0, .inr (.inr (x0))), (1, .inl (x1))], [.inl (x1), .inr (.inr ((RH x0 31)))], hp r1.2, 0, 0)) 1 rfl ?_
    refine T_iald rfl (fun _ => ?_)
    refine T_go (S' := (32, [(0, .inr (.inr (x0))), (1, .inl (x1))], [.inl ((r1.2.1 (RH x0 31) x1.toNatClampNeg))], hp r1.2, 0, 0)) 1 rfl ?_
    refine T_loc (ls' := []) [] rfl ?_
    exact s_X12_counter_32 (r1.2.1 (RH x0 31) x1.toNatClampNeg) r1.2
def f_X12_counter_15 (x0 : Nat) (x1 : Int32) (s0 : Nat) (σ : eMem) : Option (Int32 × eMem) :=
  f_X12_counter_16 x0 x1 s0 (0 : Int32) σ
set_option maxHeartbeats 4000000 in
set_option maxRecDepth 20000 in
theorem s_X12_counter_15 (x0 : Nat) (x1 : Int32) (s0 : Nat) (σ : eMem) : Snd false none 1 m_X12_counter (f_X12_counter_15 x0 x1 s0 σ) (cN iI) (15, [(0, .inr (.inr (x0))), (1, .inl (x1))], [.inr (.inr (s0))], hp σ, 0, 0) := by
  unfold f_X12_counter_15
  refine T_go (S' := (16, [(0, .inr (.inr (x0))), (1, .inl (x1))], [.inl ((0 : Int32)), .inr (.inr (s0))], hp σ, 0, 0)) 1 rfl ?_
  refine T_loc (ls' := [(0, .inr (.inr (x0))), (1, .inl (x1))]) [0, 1] rfl ?_
  exact s_X12_counter_16 x0 x1 s0 (0 : Int32) σ
def f_X12_counter (x0 : Nat) (x1 : Int32) (σ : eMem) : Option (Int32 × eMem) :=
  if x1 < (0 : Int32) then
    f_X12_counter_15 x0 x1 x0 σ
  else
    if (9 : Int32) < x1 then
      f_X12_counter_15 x0 x1 x0 σ
    else
      f_X12_counter_16 x0 x1 x0 (1 : Int32) σ
set_option maxHeartbeats 4000000 in
set_option maxRecDepth 20000 in
theorem s_X12_counter (x0 : Nat) (x1 : Int32) (σ : eMem) : ∀ r, f_X12_counter x0 x1 σ = some r → Ew false 2 186 [.inr (.inr (x0)), .inl (x1)] (hp σ) (cN iI r) := by
  refine T_meth (md := m_X12_counter) (d0 := 1) (cv := (cN iI)) rfl (lb rfl) (lb rfl) ?_
  unfold f_X12_counter
  show Snd false none _ _ _ _ (0, [(0, .inr (.inr (x0))), (1, .inl (x1))], [], hp σ, 0, 0)
  refine T_go (S' := (2, [(0, .inr (.inr (x0))), (1, .inl (x1))], [.inl (x1), .inr (.inr (x0))], hp σ, 0, 0)) 2 rfl ?_
  refine T_if_lt 15 rfl rfl (fun _ => ?_) (fun _ => ?_)
  · refine T_loc (ls' := [(0, .inr (.inr (x0))), (1, .inl (x1))]) [0, 1] rfl ?_
    exact s_X12_counter_15 x0 x1 x0 σ
  · refine T_go (S' := (8, [(0, .inr (.inr (x0))), (1, .inl (x1))], [.inl ((9 : Int32)), .inl (x1), .inr (.inr (x0))], hp σ, 0, 0)) 2 rfl ?_
    refine T_icmp_gt 15 rfl rfl (fun _ => ?_) (fun _ => ?_)
    · refine T_loc (ls' := [(0, .inr (.inr (x0))), (1, .inl (x1))]) [0, 1] rfl ?_
      exact s_X12_counter_15 x0 x1 x0 σ
    · refine T_go (S' := (16, [(0, .inr (.inr (x0))), (1, .inl (x1))], [.inl ((1 : Int32)), .inr (.inr (x0))], hp σ, 0, 0)) 2 rfl ?_
      refine T_loc (ls' := [(0, .inr (.inr (x0))), (1, .inl (x1))]) [0, 1] rfl ?_
      exact s_X12_counter_16 x0 x1 x0 (1 : Int32) σ
