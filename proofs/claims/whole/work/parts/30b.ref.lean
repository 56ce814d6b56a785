/-! what the methods do -/
def f_X12_does_231  (σ : eMem) : Option (Unit × eMem) :=
  some ((), σ)
set_option maxHeartbeats 4000000 in
set_option maxRecDepth 20000 in
theorem s_X12_does_231  (σ : eMem) : Snd false none 3 m_X12_does (f_X12_does_231 σ) (cN iU) (231, [], [], hp σ, 0, 0) := by
  unfold f_X12_does_231
  exact T_ret rfl
def f_X12_does_57 (x0 : Nat) (x2 : Int32) (x3 : Int32) (σ : eMem) : Option (Unit × eMem) :=
  if (KH x0).1 = 10 then
    Option.bind (f_X12_sends x0 (2 : Int32) x3 (7 : Int32) x2 x3 (0 : Int32) σ) (fun r1 =>
      f_X12_does_231  r1.2
      )
  else none
set_option maxHeartbeats 4000000 in
set_option maxRecDepth 20000 in
theorem s_X12_does_57 (x0 : Nat) (x2 : Int32) (x3 : Int32) (σ : eMem) : Snd false none 3 m_X12_does (f_X12_does_57 x0 x2 x3 σ) (cN iU) (57, [(0, .inr (.inr (x0))), (2, .inl (x2)), (3, .inl (x3))], [], hp σ, 0, 0) := by
  unfold f_X12_does_57
  refine T_go (S' := (65, [(0, .inr (.inr (x0))), (2, .inl (x2)), (3, .inl (x3))], [.inl ((0 : Int32)), .inl (x3), .inl (x2), .inl ((7 : Int32)), .inl (x3), .inl ((2 : Int32)), .inr (.inr (x0))], hp σ, 0, 0)) 7 rfl ?_
  refine T_cv (i := iU) (as := [.inr (.inr (x0)), .inl ((2 : Int32)), .inl (x3), .inl ((7 : Int32)), .inl (x2), .inl (x3), .inl ((0 : Int32))]) (rest := []) (st := [.inl ((0 : Int32)), .inl (x3), .inl (x2), .inl ((7 : Int32)), .inl (x3), .inl ((2 : Int32)), .inr (.inr (x0))]) rfl rfl rfl ⟨lb rfl, lb rfl, lb rfl, lb rfl⟩ (fun _ h => Ew_le (lb rfl) (s_X12_sends x0 (2 : Int32) x3 (7 : Int32) x2 x3 (0 : Int32) σ _ h)) (fun _ r1 => ?_)
  show Snd false none _ _ _ (cN iU) (68, [(0, .inr (.inr (x0))), (2, .inl (x2)), (3, .inl (x3))], [], hp r1.2, 0, 0)
  refine T_go (S' := (231, [(0, .inr (.inr (x0))), (2, .inl (x2)), (3, .inl (x3))], [], hp r1.2, 0, 0)) 1 rfl ?_
  refine T_loc (ls' := []) [] rfl ?_
  exact s_X12_does_231  r1.2
def f_X12_does_93 (x0 : Nat) (x1 : Int32) (x2 : Int32) (x3 : Int32) (s0 : Nat) (s1 : Int32) (s2 : Int32) (s3 : Int32) (σ : eMem) : Option (Unit × eMem) :=
  if (KH s0).1 = 10 then
    Option.bind (f_X12_sends s0 s1 s2 s3 x2 x3 (0 : Int32) σ) (fun r1 =>
      if (KH x0).1 = 10 then
        Option.bind (f_X12_waits x0 x2 x1 x3 (1 : Int32) r1.2) (fun r2 =>
          f_X12_does_231  r2.2
          )
      else none
      )
  else none
set_option maxHeartbeats 4000000 in
set_option maxRecDepth 20000 in
theorem s_X12_does_93 (x0 : Nat) (x1 : Int32) (x2 : Int32) (x3 : Int32) (s0 : Nat) (s1 : Int32) (s2 : Int32) (s3 : Int32) (σ : eMem) : Snd false none 3 m_X12_does (f_X12_does_93 x0 x1 x2 x3 s0 s1 s2 s3 σ) (cN iU) (93, [(0, .inr (.inr (x0))), (1, .inl (x1)), (2, .inl (x2)), (3, .inl (x3))], [.inl (s3), .inl (s2), .inl (s1), .inr (.inr (s0))], hp σ, 0, 0) := by
  unfold f_X12_does_93
  refine T_go (S' := (96, [(0, .inr (.inr (x0))), (1, .inl (x1)), (2, .inl (x2)), (3, .inl (x3))], [.inl ((0 : Int32)), .inl (x3), .inl (x2), .inl (s3), .inl (s2), .inl (s1), .inr (.inr (s0))], hp σ, 0, 0)) 3 rfl ?_
  refine T_cv (i := iU) (as := [.inr (.inr (s0)), .inl (s1), .inl (s2), .inl (s3), .inl (x2), .inl (x3), .inl ((0 : Int32))]) (rest := []) (st := [.inl ((0 : Int32)), .inl (x3), .inl (x2), .inl (s3), .inl (s2), .inl (s1), .inr (.inr (s0))]) rfl rfl rfl ⟨lb rfl, lb rfl, lb rfl, lb rfl⟩ (fun _ h => Ew_le (lb rfl) (s_X12_sends s0 s1 s2 s3 x2 x3 (0 : Int32) σ _ h)) (fun _ r1 => ?_)
  show Snd false none _ _ _ (cN iU) (99, [(0, .inr (.inr (x0))), (1, .inl (x1)), (2, .inl (x2)), (3, .inl (x3))], [], hp r1.2, 0, 0)
  refine T_go (S' := (104, [(0, .inr (.inr (x0))), (1, .inl (x1)), (2, .inl (x2)), (3, .inl (x3))], [.inl ((1 : Int32)), .inl (x3), .inl (x1), .inl (x2), .inr (.inr (x0))], hp r1.2, 0, 0)) 5 rfl ?_
  refine T_cv (i := iU) (as := [.inr (.inr (x0)), .inl (x2), .inl (x1), .inl (x3), .inl ((1 : Int32))]) (rest := []) (st := [.inl ((1 : Int32)), .inl (x3), .inl (x1), .inl (x2), .inr (.inr (x0))]) rfl rfl rfl ⟨lb rfl, lb rfl, lb rfl, lb rfl⟩ (fun _ h => Ew_le (lb rfl) (s_X12_waits x0 x2 x1 x3 (1 : Int32) r1.2 _ h)) (fun _ r2 => ?_)
  show Snd false none _ _ _ (cN iU) (107, [(0, .inr (.inr (x0))), (1, .inl (x1)), (2, .inl (x2)), (3, .inl (x3))], [], hp r2.2, 0, 0)
  refine T_go (S' := (231, [(0, .inr (.inr (x0))), (1, .inl (x1)), (2, .inl (x2)), (3, .inl (x3))], [], hp r2.2, 0, 0)) 1 rfl ?_
  refine T_loc (ls' := []) [] rfl ?_
  exact s_X12_does_231  r2.2
def f_X12_does_L161 : Nat → (Nat × Int32 × Int32 × Int32 × Int32 × Int32 ⊕ (Nat × Int32 × Int32 × Int32 × Int32 × Int32 ⊕ (Nat × Int32 × Int32 × Int32 × Int32 × Int32))) → eMem → Option (Unit × eMem)
  | 0, _, _ => none
  | n + 1, .inl (x0, x1, x2, x3, x6, x7), σ =>
    if (4 : Int32) ≤ x7 then
      if (KH x0).1 = 10 then
        Option.bind (f_X12_waits x0 x2 x1 x3 x6 σ) (fun r1 =>
          if (KH x0).1 = 10 then
            Option.bind (f_X12_ends x0 x2 r1.2) (fun r2 =>
              f_X12_does_231  r2.2
              )
          else none
          )
      else none
    else
      if x7 = x3 then
        f_X12_does_L161 n (.inr (.inr ((x0, x1, x2, x3, x6, x7)))) σ
      else
        if (KH x0).1 = 10 then
          if (KH (RH x0 3)).1 = 13 ∧ eix x2 (KH (RH x0 3)).2 = true then
            if ¬ (σ.1 (RH x0 3) x2.toNatClampNeg) = (0 : Int32) then
              f_X12_does_L161 n (.inr (.inl (x0, x1, x2, x3, x6, x7))) σ
            else
              if (KH x0).1 = 10 then
                if (KH (RH x0 2)).1 = 11 ∧ eix x2 (KH (RH x0 2)).2 = true then
                  if ¬ (((σ.1 (RH x0 2) x2.toNatClampNeg) >>> (x7 &&& 31)) &&& (1 : Int32)) = (1 : Int32) then
                    f_X12_does_L161 n (.inr (.inr ((x0, x1, x2, x3, x6, x7)))) σ
                  else
                    f_X12_does_L161 n (.inr (.inl (x0, x1, x2, x3, x6, x7))) σ
                else none
              else none
          else none
        else none
  | n + 1, .inr (.inl (x0, x1, x2, x3, x6, x7)), σ =>
    if (KH x0).1 = 10 then
      Option.bind (f_X12_sends x0 (1 : Int32) x7 (5 : Int32) x2 x3 (0 : Int32) σ) (fun r1 =>
        f_X12_does_L161 n (.inr (.inr ((x0, x1, x2, x3, (x6 + (1 : Int32)), x7)))) r1.2
        )
    else none
  | n + 1, .inr (.inr ((x0, x1, x2, x3, x6, x7))), σ =>
    f_X12_does_L161 n (.inl (x0, x1, x2, x3, x6, (x7 + (1 : Int32)))) σ
set_option maxHeartbeats 4000000 in
set_option maxRecDepth 20000 in
theorem s_X12_does_L161 : ∀ (n : Nat), (∀ (x0 : Nat) (x1 : Int32) (x2 : Int32) (x3 : Int32) (x6 : Int32) (x7 : Int32) (σ : eMem), Snd false none 3 m_X12_does (f_X12_does_L161 n (.inl (x0, x1, x2, x3, x6, x7)) σ) (cN iU) (161, [(0, .inr (.inr (x0))), (1, .inl (x1)), (2, .inl (x2)), (3, .inl (x3)), (6, .inl (x6)), (7, .inl (x7))], [], hp σ, 0, 0)) ∧ (∀ (x0 : Nat) (x1 : Int32) (x2 : Int32) (x3 : Int32) (x6 : Int32) (x7 : Int32) (σ : eMem), Snd false none 3 m_X12_does (f_X12_does_L161 n (.inr (.inl (x0, x1, x2, x3, x6, x7))) σ) (cN iU) (197, [(0, .inr (.inr (x0))), (1, .inl (x1)), (2, .inl (x2)), (3, .inl (x3)), (6, .inl (x6)), (7, .inl (x7))], [], hp σ, 0, 0)) ∧ (∀ (x0 : Nat) (x1 : Int32) (x2 : Int32) (x3 : Int32) (x6 : Int32) (x7 : Int32) (σ : eMem), Snd false none 3 m_X12_does (f_X12_does_L161 n (.inr (.inr ((x0, x1, x2, x3, x6, x7)))) σ) (cN iU) (211, [(0, .inr (.inr (x0))), (1, .inl (x1)), (2, .inl (x2)), (3, .inl (x3)), (6, .inl (x6)), (7, .inl (x7))], [], hp σ, 0, 0)) := by
  intro n
  induction n with
  | zero => exact ⟨fun _ _ _ _ _ _ _ => T_none, fun _ _ _ _ _ _ _ => T_none, fun _ _ _ _ _ _ _ => T_none⟩
  | succ n ih =>
    refine ⟨?_, ?_, ?_⟩
    · intro x0 x1 x2 x3 x6 x7 σ
      unfold f_X12_does_L161
      refine T_go (S' := (164, [(0, .inr (.inr (x0))), (1, .inl (x1)), (2, .inl (x2)), (3, .inl (x3)), (6, .inl (x6)), (7, .inl (x7))], [.inl ((4 : Int32)), .inl (x7)], hp σ, 0, 0)) 2 rfl ?_
      refine T_icmp_ge 217 rfl rfl (fun _ => ?_) (fun _ => ?_)
      · refine T_go (S' := (223, [(0, .inr (.inr (x0))), (1, .inl (x1)), (2, .inl (x2)), (3, .inl (x3)), (6, .inl (x6)), (7, .inl (x7))], [.inl (x6), .inl (x3), .inl (x1), .inl (x2), .inr (.inr (x0))], hp σ, 0, 0)) 5 rfl ?_
        refine T_cv (i := iU) (as := [.inr (.inr (x0)), .inl (x2), .inl (x1), .inl (x3), .inl (x6)]) (rest := []) (st := [.inl (x6), .inl (x3), .inl (x1), .inl (x2), .inr (.inr (x0))]) rfl rfl rfl ⟨lb rfl, lb rfl, lb rfl, lb rfl⟩ (fun _ h => Ew_le (lb rfl) (s_X12_waits x0 x2 x1 x3 x6 σ _ h)) (fun _ r1 => ?_)
        show Snd false none _ _ _ (cN iU) (226, [(0, .inr (.inr (x0))), (1, .inl (x1)), (2, .inl (x2)), (3, .inl (x3)), (6, .inl (x6)), (7, .inl (x7))], [], hp r1.2, 0, 0)
        refine T_go (S' := (228, [(0, .inr (.inr (x0))), (1, .inl (x1)), (2, .inl (x2)), (3, .inl (x3)), (6, .inl (x6)), (7, .inl (x7))], [.inl (x2), .inr (.inr (x0))], hp r1.2, 0, 0)) 2 rfl ?_
        refine T_cv (i := iU) (as := [.inr (.inr (x0)), .inl (x2)]) (rest := []) (st := [.inl (x2), .inr (.inr (x0))]) rfl rfl rfl ⟨lb rfl, lb rfl, lb rfl, lb rfl⟩ (fun _ h => Ew_le (lb rfl) (s_X12_ends x0 x2 r1.2 _ h)) (fun _ r2 => ?_)
        show Snd false none _ _ _ (cN iU) (231, [(0, .inr (.inr (x0))), (1, .inl (x1)), (2, .inl (x2)), (3, .inl (x3)), (6, .inl (x6)), (7, .inl (x7))], [], hp r2.2, 0, 0)
        refine T_loc (ls' := []) [] rfl ?_
        exact s_X12_does_231  r2.2
      · refine T_go (S' := (170, [(0, .inr (.inr (x0))), (1, .inl (x1)), (2, .inl (x2)), (3, .inl (x3)), (6, .inl (x6)), (7, .inl (x7))], [.inl (x3), .inl (x7)], hp σ, 0, 0)) 2 rfl ?_
        refine T_icmp_eq 211 rfl rfl (fun _ => ?_) (fun _ => ?_)
        · refine T_loc (ls' := [(0, .inr (.inr (x0))), (1, .inl (x1)), (2, .inl (x2)), (3, .inl (x3)), (6, .inl (x6)), (7, .inl (x7))]) [0, 1, 2, 3, 4, 5] rfl ?_
          exact (ih.2.2) x0 x1 x2 x3 x6 x7 σ
        · refine T_go (S' := (174, [(0, .inr (.inr (x0))), (1, .inl (x1)), (2, .inl (x2)), (3, .inl (x3)), (6, .inl (x6)), (7, .inl (x7))], [.inr (.inr (x0))], hp σ, 0, 0)) 1 rfl ?_
          refine T_getR rfl (fun _ => ?_)
          refine T_go (S' := (178, [(0, .inr (.inr (x0))), (1, .inl (x1)), (2, .inl (x2)), (3, .inl (x3)), (6, .inl (x6)), (7, .inl (x7))], [.inl (x2), .inr (.inr ((RH x0 3)))], hp σ, 0, 0)) 1 rfl ?_
          refine T_bald rfl (fun _ => ?_)
          refine T_if_ne 197 rfl rfl (fun _ => ?_) (fun _ => ?_)
          · refine T_loc (ls' := [(0, .inr (.inr (x0))), (1, .inl (x1)), (2, .inl (x2)), (3, .inl (x3)), (6, .inl (x6)), (7, .inl (x7))]) [0, 1, 2, 3, 4, 5] rfl ?_
            exact (ih.2.1) x0 x1 x2 x3 x6 x7 σ
          · refine T_go (S' := (183, [(0, .inr (.inr (x0))), (1, .inl (x1)), (2, .inl (x2)), (3, .inl (x3)), (6, .inl (x6)), (7, .inl (x7))], [.inr (.inr (x0))], hp σ, 0, 0)) 1 rfl ?_
            refine T_getR rfl (fun _ => ?_)
            refine T_go (S' := (187, [(0, .inr (.inr (x0))), (1, .inl (x1)), (2, .inl (x2)), (3, .inl (x3)), (6, .inl (x6)), (7, .inl (x7))], [.inl (x2), .inr (.inr ((RH x0 2)))], hp σ, 0, 0)) 1 rfl ?_
            refine T_iald rfl (fun _ => ?_)
            refine T_go (S' := (194, [(0, .inr (.inr (x0))), (1, .inl (x1)), (2, .inl (x2)), (3, .inl (x3)), (6, .inl (x6)), (7, .inl (x7))], [.inl ((1 : Int32)), .inl ((((σ.1 (RH x0 2) x2.toNatClampNeg) >>> (x7 &&& 31)) &&& (1 : Int32)))], hp σ, 0, 0)) 5 rfl ?_
            refine T_icmp_ne 211 rfl rfl (fun _ => ?_) (fun _ => ?_)
            · refine T_loc (ls' := [(0, .inr (.inr (x0))), (1, .inl (x1)), (2, .inl (x2)), (3, .inl (x3)), (6, .inl (x6)), (7, .inl (x7))]) [0, 1, 2, 3, 4, 5] rfl ?_
              exact (ih.2.2) x0 x1 x2 x3 x6 x7 σ
            · refine T_loc (ls' := [(0, .inr (.inr (x0))), (1, .inl (x1)), (2, .inl (x2)), (3, .inl (x3)), (6, .inl (x6)), (7, .inl (x7))]) [0, 1, 2, 3, 4, 5] rfl ?_
              exact (ih.2.1) x0 x1 x2 x3 x6 x7 σ
    · intro x0 x1 x2 x3 x6 x7 σ
      unfold f_X12_does_L161
      refine T_go (S' := (205, [(0, .inr (.inr (x0))), (1, .inl (x1)), (2, .inl (x2)), (3, .inl (x3)), (6, .inl (x6)), (7, .inl (x7))], [.inl ((0 : Int32)), .inl (x3), .inl (x2), .inl ((5 : Int32)), .inl (x7), .inl ((1 : Int32)), .inr (.inr (x0))], hp σ, 0, 0)) 7 rfl ?_
      refine T_cv (i := iU) (as := [.inr (.inr (x0)), .inl ((1 : Int32)), .inl (x7), .inl ((5 : Int32)), .inl (x2), .inl (x3), .inl ((0 : Int32))]) (rest := []) (st := [.inl ((0 : Int32)), .inl (x3), .inl (x2), .inl ((5 : Int32)), .inl (x7), .inl ((1 : Int32)), .inr (.inr (x0))]) rfl rfl rfl ⟨lb rfl, lb rfl, lb rfl, lb rfl⟩ (fun _ h => Ew_le (lb rfl) (s_X12_sends x0 (1 : Int32) x7 (5 : Int32) x2 x3 (0 : Int32) σ _ h)) (fun _ r1 => ?_)
      show Snd false none _ _ _ (cN iU) (208, [(0, .inr (.inr (x0))), (1, .inl (x1)), (2, .inl (x2)), (3, .inl (x3)), (6, .inl (x6)), (7, .inl (x7))], [], hp r1.2, 0, 0)
      refine T_go (S' := (211, [(6, .inl ((x6 + (1 : Int32)))), (0, .inr (.inr (x0))), (1, .inl (x1)), (2, .inl (x2)), (3, .inl (x3)), (7, .inl (x7))], [], hp r1.2, 0, 0)) 1 rfl ?_
      refine T_loc (ls' := [(0, .inr (.inr (x0))), (1, .inl (x1)), (2, .inl (x2)), (3, .inl (x3)), (6, .inl ((x6 + (1 : Int32)))), (7, .inl (x7))]) [1, 2, 3, 4, 0, 5] rfl ?_
      exact (ih.2.2) x0 x1 x2 x3 (x6 + (1 : Int32)) x7 r1.2
    · intro x0 x1 x2 x3 x6 x7 σ
      unfold f_X12_does_L161
      refine T_go (S' := (161, [(7, .inl ((x7 + (1 : Int32)))), (0, .inr (.inr (x0))), (1, .inl (x1)), (2, .inl (x2)), (3, .inl (x3)), (6, .inl (x6))], [], hp σ, 0, 0)) 2 rfl ?_
      refine T_loc (ls' := [(0, .inr (.inr (x0))), (1, .inl (x1)), (2, .inl (x2)), (3, .inl (x3)), (6, .inl (x6)), (7, .inl ((x7 + (1 : Int32))))]) [1, 2, 3, 4, 5, 0] rfl ?_
      exact (ih.1) x0 x1 x2 x3 x6 (x7 + (1 : Int32)) σ
def f_X12_does_25 (x0 : Nat) (x1 : Int32) (x2 : Int32) (x3 : Int32) (x4 : Int32) (s0 : Int32) (σ : eMem) : Option (Unit × eMem) :=
  if ¬ x1 = (2 : Int32) then
    if s0 = (0 : Int32) then
      if ¬ x1 = (0 : Int32) then
        f_X12_does_L161 1000000 (.inl (x0, x1, x2, x3, (0 : Int32), (0 : Int32))) σ
      else
        if (KH x0).1 = 10 then
          Option.bind (f_X12_hasSharers x0 x2 σ) (fun r1 =>
            if r1.1 = (0 : Int32) then
              if (KH x0).1 = 10 then
                if (KH (RH x0 1)).1 = 11 ∧ eix x2 (KH (RH x0 1)).2 = true then eLet ((eup r1.2.1 (RH x0 1) x2.toNatClampNeg x3, r1.2.2) : eMem) (fun σ2 =>
                  if (KH x0).1 = 10 then
                    Option.bind (f_X12_gives x0 x2 x3 (2 : Int32) σ2) (fun r3 =>
                      f_X12_does_231  r3.2
                      )
                  else none
                  ) else none
              else none
            else
              if (KH x0).1 = 10 then
                Option.bind (f_X12_shares x0 x2 x3 r1.2) (fun r4 =>
                  if (KH x0).1 = 10 then
                    Option.bind (f_X12_gives x0 x2 x3 (1 : Int32) r4.2) (fun r5 =>
                      f_X12_does_231  r5.2
                      )
                  else none
                  )
              else none
            )
        else none
    else
      if (KH x0).1 = 10 then
        if (KH (RH x0 1)).1 = 11 ∧ eix x2 (KH (RH x0 1)).2 = true then
          if ¬ x1 = (0 : Int32) then
            f_X12_does_93 x0 x1 x2 x3 x0 (1 : Int32) (σ.1 (RH x0 1) x2.toNatClampNeg) (4 : Int32) σ
          else
            f_X12_does_93 x0 x1 x2 x3 x0 (1 : Int32) (σ.1 (RH x0 1) x2.toNatClampNeg) (3 : Int32) σ
        else none
      else none
  else
    if (KH x0).1 = 10 then
      if (KH (RH x0 1)).1 = 11 ∧ eix x2 (KH (RH x0 1)).2 = true then
        if ¬ (σ.1 (RH x0 1) x2.toNatClampNeg) = x3 then
          f_X12_does_57 x0 x2 x3 σ
        else
          if (KH x0).1 = 10 then
            if (KH (RH x0 0)).1 = 11 ∧ eix x2 (KH (RH x0 0)).2 = true then eLet ((eup σ.1 (RH x0 0) x2.toNatClampNeg x4, σ.2) : eMem) (fun σ6 =>
              if (KH x0).1 = 10 then
                if (KH (RH x0 1)).1 = 11 ∧ eix x2 (KH (RH x0 1)).2 = true then eLet ((eup σ6.1 (RH x0 1) x2.toNatClampNeg (-1 : Int32), σ6.2) : eMem) (fun σ7 =>
                  f_X12_does_57 x0 x2 x3 σ7
                  ) else none
              else none
              ) else none
          else none
      else none
    else none
set_option maxHeartbeats 4000000 in
set_option maxRecDepth 20000 in
theorem s_X12_does_25 (x0 : Nat) (x1 : Int32) (x2 : Int32) (x3 : Int32) (x4 : Int32) (s0 : Int32) (σ : eMem) : Snd false none 3 m_X12_does (f_X12_does_25 x0 x1 x2 x3 x4 s0 σ) (cN iU) (25, [(0, .inr (.inr (x0))), (1, .inl (x1)), (2, .inl (x2)), (3, .inl (x3)), (4, .inl (x4))], [.inl (s0)], hp σ, 0, 0) := by
  unfold f_X12_does_25
  refine T_go (S' := (29, [(5, .inl (s0)), (0, .inr (.inr (x0))), (1, .inl (x1)), (2, .inl (x2)), (3, .inl (x3)), (4, .inl (x4))], [.inl ((2 : Int32)), .inl (x1)], hp σ, 0, 0)) 3 rfl ?_
  refine T_icmp_ne 71 rfl rfl (fun _ => ?_) (fun _ => ?_)
  · refine T_go (S' := (73, [(5, .inl (s0)), (0, .inr (.inr (x0))), (1, .inl (x1)), (2, .inl (x2)), (3, .inl (x3)), (4, .inl (x4))], [.inl (s0)], hp σ, 0, 0)) 1 rfl ?_
    refine T_if_eq 110 rfl rfl (fun _ => ?_) (fun _ => ?_)
    · refine T_go (S' := (111, [(5, .inl (s0)), (0, .inr (.inr (x0))), (1, .inl (x1)), (2, .inl (x2)), (3, .inl (x3)), (4, .inl (x4))], [.inl (x1)], hp σ, 0, 0)) 1 rfl ?_
      refine T_if_ne 155 rfl rfl (fun _ => ?_) (fun _ => ?_)
      · refine T_go (S' := (161, [(7, .inl ((0 : Int32))), (6, .inl ((0 : Int32))), (5, .inl (s0)), (0, .inr (.inr (x0))), (1, .inl (x1)), (2, .inl (x2)), (3, .inl (x3)), (4, .inl (x4))], [], hp σ, 0, 0)) 4 rfl ?_
        refine T_loc (ls' := [(0, .inr (.inr (x0))), (1, .inl (x1)), (2, .inl (x2)), (3, .inl (x3)), (6, .inl ((0 : Int32))), (7, .inl ((0 : Int32)))]) [3, 4, 5, 6, 1, 0] rfl ?_
        exact (s_X12_does_L161 1000000).1 x0 x1 x2 x3 (0 : Int32) (0 : Int32) σ
      · refine T_go (S' := (116, [(5, .inl (s0)), (0, .inr (.inr (x0))), (1, .inl (x1)), (2, .inl (x2)), (3, .inl (x3)), (4, .inl (x4))], [.inl (x2), .inr (.inr (x0))], hp σ, 0, 0)) 2 rfl ?_
        refine T_cv (i := iI) (as := [.inr (.inr (x0)), .inl (x2)]) (rest := []) (st := [.inl (x2), .inr (.inr (x0))]) rfl rfl rfl ⟨lb rfl, lb rfl, lb rfl, lb rfl⟩ (fun _ h => Ew_le (lb rfl) (s_X12_hasSharers x0 x2 σ _ h)) (fun _ r1 => ?_)
        show Snd false none _ _ _ (cN iU) (119, [(5, .inl (s0)), (0, .inr (.inr (x0))), (1, .inl (x1)), (2, .inl (x2)), (3, .inl (x3)), (4, .inl (x4))], [.inl (r1.1)], hp r1.2, 0, 0)
        refine T_if_eq 138 rfl rfl (fun _ => ?_) (fun _ => ?_)
        · refine T_go (S' := (139, [(5, .inl (s0)), (0, .inr (.inr (x0))), (1, .inl (x1)), (2, .inl (x2)), (3, .inl (x3)), (4, .inl (x4))], [.inr (.inr (x0))], hp r1.2, 0, 0)) 1 rfl ?_
          refine T_getR rfl (fun _ => ?_)
          refine T_go (S' := (144, [(5, .inl (s0)), (0, .inr (.inr (x0))), (1, .inl (x1)), (2, .inl (x2)), (3, .inl (x3)), (4, .inl (x4))], [.inl (x3), .inl (x2), .inr (.inr ((RH x0 1)))], hp r1.2, 0, 0)) 2 rfl ?_
          refine T_iast rfl (fun _ => ?_)
          refine T_let (Sf := fun σ2 => (145, [(5, .inl (s0)), (0, .inr (.inr (x0))), (1, .inl (x1)), (2, .inl (x2)), (3, .inl (x3)), (4, .inl (x4))], [], hp σ2, 0, 0)) (fun σ2 => ?_)
          refine T_go (S' := (149, [(5, .inl (s0)), (0, .inr (.inr (x0))), (1, .inl (x1)), (2, .inl (x2)), (3, .inl (x3)), (4, .inl (x4))], [.inl ((2 : Int32)), .inl (x3), .inl (x2), .inr (.inr (x0))], hp σ2, 0, 0)) 4 rfl ?_
          refine T_cv (i := iU) (as := [.inr (.inr (x0)), .inl (x2), .inl (x3), .inl ((2 : Int32))]) (rest := []) (st := [.inl ((2 : Int32)), .inl (x3), .inl (x2), .inr (.inr (x0))]) rfl rfl rfl ⟨lb rfl, lb rfl, lb rfl, lb rfl⟩ (fun _ h => Ew_le (lb rfl) (s_X12_gives x0 x2 x3 (2 : Int32) σ2 _ h)) (fun _ r3 => ?_)
          show Snd false none _ _ _ (cN iU) (152, [(5, .inl (s0)), (0, .inr (.inr (x0))), (1, .inl (x1)), (2, .inl (x2)), (3, .inl (x3)), (4, .inl (x4))], [], hp r3.2, 0, 0)
          refine T_go (S' := (231, [(5, .inl (s0)), (0, .inr (.inr (x0))), (1, .inl (x1)), (2, .inl (x2)), (3, .inl (x3)), (4, .inl (x4))], [], hp r3.2, 0, 0)) 1 rfl ?_
          refine T_loc (ls' := []) [] rfl ?_
          exact s_X12_does_231  r3.2
        · refine T_go (S' := (125, [(5, .inl (s0)), (0, .inr (.inr (x0))), (1, .inl (x1)), (2, .inl (x2)), (3, .inl (x3)), (4, .inl (x4))], [.inl (x3), .inl (x2), .inr (.inr (x0))], hp r1.2, 0, 0)) 3 rfl ?_
          refine T_cv (i := iU) (as := [.inr (.inr (x0)), .inl (x2), .inl (x3)]) (rest := []) (st := [.inl (x3), .inl (x2), .inr (.inr (x0))]) rfl rfl rfl ⟨lb rfl, lb rfl, lb rfl, lb rfl⟩ (fun _ h => Ew_le (lb rfl) (s_X12_shares x0 x2 x3 r1.2 _ h)) (fun _ r4 => ?_)
          show Snd false none _ _ _ (cN iU) (128, [(5, .inl (s0)), (0, .inr (.inr (x0))), (1, .inl (x1)), (2, .inl (x2)), (3, .inl (x3)), (4, .inl (x4))], [], hp r4.2, 0, 0)
          refine T_go (S' := (132, [(5, .inl (s0)), (0, .inr (.inr (x0))), (1, .inl (x1)), (2, .inl (x2)), (3, .inl (x3)), (4, .inl (x4))], [.inl ((1 : Int32)), .inl (x3), .inl (x2), .inr (.inr (x0))], hp r4.2, 0, 0)) 4 rfl ?_
          refine T_cv (i := iU) (as := [.inr (.inr (x0)), .inl (x2), .inl (x3), .inl ((1 : Int32))]) (rest := []) (st := [.inl ((1 : Int32)), .inl (x3), .inl (x2), .inr (.inr (x0))]) rfl rfl rfl ⟨lb rfl, lb rfl, lb rfl, lb rfl⟩ (fun _ h => Ew_le (lb rfl) (s_X12_gives x0 x2 x3 (1 : Int32) r4.2 _ h)) (fun _ r5 => ?_)
          show Snd false none _ _ _ (cN iU) (135, [(5, .inl (s0)), (0, .inr (.inr (x0))), (1, .inl (x1)), (2, .inl (x2)), (3, .inl (x3)), (4, .inl (x4))], [], hp r5.2, 0, 0)
          refine T_go (S' := (231, [(5, .inl (s0)), (0, .inr (.inr (x0))), (1, .inl (x1)), (2, .inl (x2)), (3, .inl (x3)), (4, .inl (x4))], [], hp r5.2, 0, 0)) 1 rfl ?_
          refine T_loc (ls' := []) [] rfl ?_
          exact s_X12_does_231  r5.2
    · refine T_go (S' := (79, [(5, .inl (s0)), (0, .inr (.inr (x0))), (1, .inl (x1)), (2, .inl (x2)), (3, .inl (x3)), (4, .inl (x4))], [.inr (.inr (x0)), .inl ((1 : Int32)), .inr (.inr (x0))], hp σ, 0, 0)) 3 rfl ?_
      refine T_getR rfl (fun _ => ?_)
      refine T_go (S' := (83, [(5, .inl (s0)), (0, .inr (.inr (x0))), (1, .inl (x1)), (2, .inl (x2)), (3, .inl (x3)), (4, .inl (x4))], [.inl (x2), .inr (.inr ((RH x0 1))), .inl ((1 : Int32)), .inr (.inr (x0))], hp σ, 0, 0)) 1 rfl ?_
      refine T_iald rfl (fun _ => ?_)
      refine T_go (S' := (85, [(5, .inl (s0)), (0, .inr (.inr (x0))), (1, .inl (x1)), (2, .inl (x2)), (3, .inl (x3)), (4, .inl (x4))], [.inl (x1), .inl ((σ.1 (RH x0 1) x2.toNatClampNeg)), .inl ((1 : Int32)), .inr (.inr (x0))], hp σ, 0, 0)) 1 rfl ?_
      refine T_if_ne 92 rfl rfl (fun _ => ?_) (fun _ => ?_)
      · refine T_go (S' := (93, [(5, .inl (s0)), (0, .inr (.inr (x0))), (1, .inl (x1)), (2, .inl (x2)), (3, .inl (x3)), (4, .inl (x4))], [.inl ((4 : Int32)), .inl ((σ.1 (RH x0 1) x2.toNatClampNeg)), .inl ((1 : Int32)), .inr (.inr (x0))], hp σ, 0, 0)) 1 rfl ?_
        refine T_loc (ls' := [(0, .inr (.inr (x0))), (1, .inl (x1)), (2, .inl (x2)), (3, .inl (x3))]) [1, 2, 3, 4] rfl ?_
        exact s_X12_does_93 x0 x1 x2 x3 x0 (1 : Int32) (σ.1 (RH x0 1) x2.toNatClampNeg) (4 : Int32) σ
      · refine T_go (S' := (93, [(5, .inl (s0)), (0, .inr (.inr (x0))), (1, .inl (x1)), (2, .inl (x2)), (3, .inl (x3)), (4, .inl (x4))], [.inl ((3 : Int32)), .inl ((σ.1 (RH x0 1) x2.toNatClampNeg)), .inl ((1 : Int32)), .inr (.inr (x0))], hp σ, 0, 0)) 2 rfl ?_
        refine T_loc (ls' := [(0, .inr (.inr (x0))), (1, .inl (x1)), (2, .inl (x2)), (3, .inl (x3))]) [1, 2, 3, 4] rfl ?_
        exact s_X12_does_93 x0 x1 x2 x3 x0 (1 : Int32) (σ.1 (RH x0 1) x2.toNatClampNeg) (3 : Int32) σ
  · refine T_go (S' := (33, [(5, .inl (s0)), (0, .inr (.inr (x0))), (1, .inl (x1)), (2, .inl (x2)), (3, .inl (x3)), (4, .inl (x4))], [.inr (.inr (x0))], hp σ, 0, 0)) 1 rfl ?_
    refine T_getR rfl (fun _ => ?_)
    refine T_go (S' := (37, [(5, .inl (s0)), (0, .inr (.inr (x0))), (1, .inl (x1)), (2, .inl (x2)), (3, .inl (x3)), (4, .inl (x4))], [.inl (x2), .inr (.inr ((RH x0 1)))], hp σ, 0, 0)) 1 rfl ?_
    refine T_iald rfl (fun _ => ?_)
    refine T_go (S' := (39, [(5, .inl (s0)), (0, .inr (.inr (x0))), (1, .inl (x1)), (2, .inl (x2)), (3, .inl (x3)), (4, .inl (x4))], [.inl (x3), .inl ((σ.1 (RH x0 1) x2.toNatClampNeg))], hp σ, 0, 0)) 1 rfl ?_
    refine T_icmp_ne 57 rfl rfl (fun _ => ?_) (fun _ => ?_)
    · refine T_loc (ls' := [(0, .inr (.inr (x0))), (2, .inl (x2)), (3, .inl (x3))]) [1, 3, 4] rfl ?_
      exact s_X12_does_57 x0 x2 x3 σ
    · refine T_go (S' := (43, [(5, .inl (s0)), (0, .inr (.inr (x0))), (1, .inl (x1)), (2, .inl (x2)), (3, .inl (x3)), (4, .inl (x4))], [.inr (.inr (x0))], hp σ, 0, 0)) 1 rfl ?_
      refine T_getR rfl (fun _ => ?_)
      refine T_go (S' := (49, [(5, .inl (s0)), (0, .inr (.inr (x0))), (1, .inl (x1)), (2, .inl (x2)), (3, .inl (x3)), (4, .inl (x4))], [.inl (x4), .inl (x2), .inr (.inr ((RH x0 0)))], hp σ, 0, 0)) 2 rfl ?_
      refine T_iast rfl (fun _ => ?_)
      refine T_let (Sf := fun σ6 => (50, [(5, .inl (s0)), (0, .inr (.inr (x0))), (1, .inl (x1)), (2, .inl (x2)), (3, .inl (x3)), (4, .inl (x4))], [], hp σ6, 0, 0)) (fun σ6 => ?_)
      refine T_go (S' := (51, [(5, .inl (s0)), (0, .inr (.inr (x0))), (1, .inl (x1)), (2, .inl (x2)), (3, .inl (x3)), (4, .inl (x4))], [.inr (.inr (x0))], hp σ6, 0, 0)) 1 rfl ?_
      refine T_getR rfl (fun _ => ?_)
      refine T_go (S' := (56, [(5, .inl (s0)), (0, .inr (.inr (x0))), (1, .inl (x1)), (2, .inl (x2)), (3, .inl (x3)), (4, .inl (x4))], [.inl ((-1 : Int32)), .inl (x2), .inr (.inr ((RH x0 1)))], hp σ6, 0, 0)) 2 rfl ?_
      refine T_iast rfl (fun _ => ?_)
      refine T_let (Sf := fun σ7 => (57, [(5, .inl (s0)), (0, .inr (.inr (x0))), (1, .inl (x1)), (2, .inl (x2)), (3, .inl (x3)), (4, .inl (x4))], [], hp σ7, 0, 0)) (fun σ7 => ?_)
      refine T_loc (ls' := [(0, .inr (.inr (x0))), (2, .inl (x2)), (3, .inl (x3))]) [1, 3, 4] rfl ?_
      exact s_X12_does_57 x0 x2 x3 σ7
def f_X12_does_24 (x0 : Nat) (x1 : Int32) (x2 : Int32) (x3 : Int32) (x4 : Int32) (σ : eMem) : Option (Unit × eMem) :=
  f_X12_does_25 x0 x1 x2 x3 x4 (0 : Int32) σ
set_option maxHeartbeats 4000000 in
set_option maxRecDepth 20000 in
theorem s_X12_does_24 (x0 : Nat) (x1 : Int32) (x2 : Int32) (x3 : Int32) (x4 : Int32) (σ : eMem) : Snd false none 3 m_X12_does (f_X12_does_24 x0 x1 x2 x3 x4 σ) (cN iU) (24, [(0, .inr (.inr (x0))), (1, .inl (x1)), (2, .inl (x2)), (3, .inl (x3)), (4, .inl (x4))], [], hp σ, 0, 0) := by
  unfold f_X12_does_24
  refine T_go (S' := (25, [(0, .inr (.inr (x0))), (1, .inl (x1)), (2, .inl (x2)), (3, .inl (x3)), (4, .inl (x4))], [.inl ((0 : Int32))], hp σ, 0, 0)) 1 rfl ?_
  refine T_loc (ls' := [(0, .inr (.inr (x0))), (1, .inl (x1)), (2, .inl (x2)), (3, .inl (x3)), (4, .inl (x4))]) [0, 1, 2, 3, 4] rfl ?_
  exact s_X12_does_25 x0 x1 x2 x3 x4 (0 : Int32) σ
def f_X12_does (x0 : Nat) (x1 : Int32) (x2 : Int32) (x3 : Int32) (x4 : Int32) (σ : eMem) : Option (Unit × eMem) :=
  if (KH x0).1 = 10 then
    if (KH (RH x0 1)).1 = 11 ∧ eix x2 (KH (RH x0 1)).2 = true then
      if (σ.1 (RH x0 1) x2.toNatClampNeg) = (-1 : Int32) then
        f_X12_does_24 x0 x1 x2 x3 x4 σ
      else
        if (KH x0).1 = 10 then
          if (KH (RH x0 1)).1 = 11 ∧ eix x2 (KH (RH x0 1)).2 = true then
            if (σ.1 (RH x0 1) x2.toNatClampNeg) = x3 then
              f_X12_does_24 x0 x1 x2 x3 x4 σ
            else
              f_X12_does_25 x0 x1 x2 x3 x4 (1 : Int32) σ
          else none
        else none
    else none
  else none
set_option maxHeartbeats 4000000 in
set_option maxRecDepth 20000 in
theorem s_X12_does (x0 : Nat) (x1 : Int32) (x2 : Int32) (x3 : Int32) (x4 : Int32) (σ : eMem) : ∀ r, f_X12_does x0 x1 x2 x3 x4 σ = some r → Ew false 4 143 [.inr (.inr (x0)), .inl (x1), .inl (x2), .inl (x3), .inl (x4)] (hp σ) (cN iU r) := by
  refine T_meth (md := m_X12_does) (d0 := 3) (cv := (cN iU)) rfl (lb rfl) (lb rfl) ?_
  unfold f_X12_does
  show Snd false none _ _ _ _ (0, [(0, .inr (.inr (x0))), (1, .inl (x1)), (2, .inl (x2)), (3, .inl (x3)), (4, .inl (x4))], [], hp σ, 0, 0)
  refine T_go (S' := (1, [(0, .inr (.inr (x0))), (1, .inl (x1)), (2, .inl (x2)), (3, .inl (x3)), (4, .inl (x4))], [.inr (.inr (x0))], hp σ, 0, 0)) 1 rfl ?_
  refine T_getR rfl (fun _ => ?_)
  refine T_go (S' := (5, [(0, .inr (.inr (x0))), (1, .inl (x1)), (2, .inl (x2)), (3, .inl (x3)), (4, .inl (x4))], [.inl (x2), .inr (.inr ((RH x0 1)))], hp σ, 0, 0)) 1 rfl ?_
  refine T_iald rfl (fun _ => ?_)
  refine T_go (S' := (7, [(0, .inr (.inr (x0))), (1, .inl (x1)), (2, .inl (x2)), (3, .inl (x3)), (4, .inl (x4))], [.inl ((-1 : Int32)), .inl ((σ.1 (RH x0 1) x2.toNatClampNeg))], hp σ, 0, 0)) 1 rfl ?_
  refine T_icmp_eq 24 rfl rfl (fun _ => ?_) (fun _ => ?_)
  · refine T_loc (ls' := [(0, .inr (.inr (x0))), (1, .inl (x1)), (2, .inl (x2)), (3, .inl (x3)), (4, .inl (x4))]) [0, 1, 2, 3, 4] rfl ?_
    exact s_X12_does_24 x0 x1 x2 x3 x4 σ
  · refine T_go (S' := (11, [(0, .inr (.inr (x0))), (1, .inl (x1)), (2, .inl (x2)), (3, .inl (x3)), (4, .inl (x4))], [.inr (.inr (x0))], hp σ, 0, 0)) 1 rfl ?_
    refine T_getR rfl (fun _ => ?_)
    refine T_go (S' := (15, [(0, .inr (.inr (x0))), (1, .inl (x1)), (2, .inl (x2)), (3, .inl (x3)), (4, .inl (x4))], [.inl (x2), .inr (.inr ((RH x0 1)))], hp σ, 0, 0)) 1 rfl ?_
    refine T_iald rfl (fun _ => ?_)
    refine T_go (S' := (17, [(0, .inr (.inr (x0))), (1, .inl (x1)), (2, .inl (x2)), (3, .inl (x3)), (4, .inl (x4))], [.inl (x3), .inl ((σ.1 (RH x0 1) x2.toNatClampNeg))], hp σ, 0, 0)) 1 rfl ?_
    refine T_icmp_eq 24 rfl rfl (fun _ => ?_) (fun _ => ?_)
    · refine T_loc (ls' := [(0, .inr (.inr (x0))), (1, .inl (x1)), (2, .inl (x2)), (3, .inl (x3)), (4, .inl (x4))]) [0, 1, 2, 3, 4] rfl ?_
      exact s_X12_does_24 x0 x1 x2 x3 x4 σ
    · refine T_go (S' := (25, [(0, .inr (.inr (x0))), (1, .inl (x1)), (2, .inl (x2)), (3, .inl (x3)), (4, .inl (x4))], [.inl ((1 : Int32))], hp σ, 0, 0)) 2 rfl ?_
      refine T_loc (ls' := [(0, .inr (.inr (x0))), (1, .inl (x1)), (2, .inl (x2)), (3, .inl (x3)), (4, .inl (x4))]) [0, 1, 2, 3, 4] rfl ?_
      exact s_X12_does_25 x0 x1 x2 x3 x4 (1 : Int32) σ
def f_X12_goesOn_106  (σ : eMem) : Option (Unit × eMem) :=
  some ((), σ)
set_option maxHeartbeats 4000000 in
set_option maxRecDepth 20000 in
theorem s_X12_goesOn_106  (σ : eMem) : Snd false none 4 m_X12_goesOn (f_X12_goesOn_106 σ) (cN iU) (106, [], [], hp σ, 0, 0) := by
  unfold f_X12_goesOn_106
  exact T_ret rfl
def f_X12_goesOn_L0 : Nat → (Nat × Int32 ⊕ (Nat × Int32 × Int32 × Int32)) → eMem → Option (Unit × eMem)
  | 0, _, _ => none
  | n + 1, .inl (x0, x1), σ =>
    if (KH x0).1 = 10 then
      if (KH (RH x0 4)).1 = 11 ∧ eix x1 (KH (RH x0 4)).2 = true then
        if ¬ (σ.1 (RH x0 4) x1.toNatClampNeg) = (-1 : Int32) then
          f_X12_goesOn_106  σ
        else
          if (KH x0).1 = 10 then
            if (KH (RH x0 7)).1 = 11 ∧ eix x1 (KH (RH x0 7)).2 = true then
              if (σ.1 (RH x0 7) x1.toNatClampNeg) ≤ (0 : Int32) then
                f_X12_goesOn_106  σ
              else
                if (KH x0).1 = 10 then
                  if (KH (RH x0 8)).1 = 11 ∧ eix ((8 : Int32) * x1) (KH (RH x0 8)).2 = true then
                    eLet ((σ.1 (RH x0 8) ((8 : Int32) * x1).toNatClampNeg) : Int32) (fun v1 =>
                      if (KH x0).1 = 10 then
                        if (KH (RH x0 7)).1 = 11 ∧ eix x1 (KH (RH x0 7)).2 = true then
                          if (KH (RH x0 7)).1 = 11 ∧ eix x1 (KH (RH x0 7)).2 = true then eLet ((eup σ.1 (RH x0 7) x1.toNatClampNeg ((σ.1 (RH x0 7) x1.toNatClampNeg) - (1 : Int32)), σ.2) : eMem) (fun σ2 =>
                            f_X12_goesOn_L0 n (.inr ((x0, x1, v1, (0 : Int32)))) σ2
                            ) else none
                        else none
                      else none
                      )
                  else none
                else none
            else none
          else none
      else none
    else none
  | n + 1, .inr ((x0, x1, x2, x3)), σ =>
    if (KH x0).1 = 10 then
      if (KH (RH x0 7)).1 = 11 ∧ eix x1 (KH (RH x0 7)).2 = true then
        if (σ.1 (RH x0 7) x1.toNatClampNeg) ≤ x3 then
          if ¬ (16 : Int32) = 0 then
            if ¬ (256 : Int32) = 0 then
              if ¬ (8 : Int32) = 0 then
                if ¬ (2048 : Int32) = 0 then
                  if (KH x0).1 = 10 then
                    Option.bind (f_X12_does x0 (x2 - x2 / (16 : Int32) * (16 : Int32)) x1 ((x2 / (256 : Int32)) - (x2 / (256 : Int32)) / (8 : Int32) * (8 : Int32)) (x2 / (2048 : Int32)) σ) (fun r1 =>
                      f_X12_goesOn_L0 n (.inl (x0, x1)) r1.2
                      )
                  else none
                else none
              else none
            else none
          else none
        else
          if (KH x0).1 = 10 then
            if (KH x0).1 = 10 then
              if (KH (RH x0 8)).1 = 11 ∧ eix ((((8 : Int32) * x1) + x3) + (1 : Int32)) (KH (RH x0 8)).2 = true then
                if (KH (RH x0 8)).1 = 11 ∧ eix (((8 : Int32) * x1) + x3) (KH (RH x0 8)).2 = true then eLet ((eup σ.1 (RH x0 8) (((8 : Int32) * x1) + x3).toNatClampNeg (σ.1 (RH x0 8) ((((8 : Int32) * x1) + x3) + (1 : Int32)).toNatClampNeg), σ.2) : eMem) (fun σ2 =>
                  f_X12_goesOn_L0 n (.inr ((x0, x1, x2, (x3 + (1 : Int32))))) σ2
                  ) else none
              else none
            else none
          else none
      else none
    else none
set_option maxHeartbeats 4000000 in
set_option maxRecDepth 20000 in
theorem s_X12_goesOn_L0 : ∀ (n : Nat), (∀ (x0 : Nat) (x1 : Int32) (σ : eMem), Snd false none 4 m_X12_goesOn (f_X12_goesOn_L0 n (.inl (x0, x1)) σ) (cN iU) (0, [(0, .inr (.inr (x0))), (1, .inl (x1))], [], hp σ, 0, 0)) ∧ (∀ (x0 : Nat) (x1 : Int32) (x2 : Int32) (x3 : Int32) (σ : eMem), Snd false none 4 m_X12_goesOn (f_X12_goesOn_L0 n (.inr ((x0, x1, x2, x3))) σ) (cN iU) (41, [(0, .inr (.inr (x0))), (1, .inl (x1)), (2, .inl (x2)), (3, .inl (x3))], [], hp σ, 0, 0)) := by
  intro n
  induction n with
  | zero => exact ⟨fun _ _ _ => T_none, fun _ _ _ _ _ => T_none⟩
  | succ n ih =>
    refine ⟨?_, ?_⟩
    · intro x0 x1 σ
      unfold f_X12_goesOn_L0
      refine T_go (S' := (1, [(0, .inr (.inr (x0))), (1, .inl (x1))], [.inr (.inr (x0))], hp σ, 0, 0)) 1 rfl ?_
      refine T_getR rfl (fun _ => ?_)
      refine T_go (S' := (5, [(0, .inr (.inr (x0))), (1, .inl (x1))], [.inl (x1), .inr (.inr ((RH x0 4)))], hp σ, 0, 0)) 1 rfl ?_
      refine T_iald rfl (fun _ => ?_)
      refine T_go (S' := (7, [(0, .inr (.inr (x0))), (1, .inl (x1))], [.inl ((-1 : Int32)), .inl ((σ.1 (RH x0 4) x1.toNatClampNeg))], hp σ, 0, 0)) 1 rfl ?_
      refine T_icmp_ne 106 rfl rfl (fun _ => ?_) (fun _ => ?_)
      · refine T_loc (ls' := []) [] rfl ?_
        exact s_X12_goesOn_106  σ
      · refine T_go (S' := (11, [(0, .inr (.inr (x0))), (1, .inl (x1))], [.inr (.inr (x0))], hp σ, 0, 0)) 1 rfl ?_
        refine T_getR rfl (fun _ => ?_)
        refine T_go (S' := (15, [(0, .inr (.inr (x0))), (1, .inl (x1))], [.inl (x1), .inr (.inr ((RH x0 7)))], hp σ, 0, 0)) 1 rfl ?_
        refine T_iald rfl (fun _ => ?_)
        refine T_if_le 106 rfl rfl (fun _ => ?_) (fun _ => ?_)
        · refine T_loc (ls' := []) [] rfl ?_
          exact s_X12_goesOn_106  σ
        · refine T_go (S' := (20, [(0, .inr (.inr (x0))), (1, .inl (x1))], [.inr (.inr (x0))], hp σ, 0, 0)) 1 rfl ?_
          refine T_getR rfl (fun _ => ?_)
          refine T_go (S' := (27, [(0, .inr (.inr (x0))), (1, .inl (x1))], [.inl (((8 : Int32) * x1)), .inr (.inr ((RH x0 8)))], hp σ, 0, 0)) 3 rfl ?_
          refine T_iald rfl (fun _ => ?_)
          refine T_go (S' := (29, [(2, .inl ((σ.1 (RH x0 8) ((8 : Int32) * x1).toNatClampNeg))), (0, .inr (.inr (x0))), (1, .inl (x1))], [], hp σ, 0, 0)) 1 rfl ?_
          refine T_let (Sf := fun v1 => (29, [(2, .inl (v1)), (0, .inr (.inr (x0))), (1, .inl (x1))], [], hp σ, 0, 0)) (fun v1 => ?_)
          refine T_go (S' := (30, [(2, .inl (v1)), (0, .inr (.inr (x0))), (1, .inl (x1))], [.inr (.inr (x0))], hp σ, 0, 0)) 1 rfl ?_
          refine T_getR rfl (fun _ => ?_)
          refine T_go (S' := (35, [(2, .inl (v1)), (0, .inr (.inr (x0))), (1, .inl (x1))], [.inl (x1), .inr (.inr ((RH x0 7))), .inl (x1), .inr (.inr ((RH x0 7)))], hp σ, 0, 0)) 2 rfl ?_
          refine T_iald rfl (fun _ => ?_)
          refine T_go (S' := (38, [(2, .inl (v1)), (0, .inr (.inr (x0))), (1, .inl (x1))], [.inl (((σ.1 (RH x0 7) x1.toNatClampNeg) - (1 : Int32))), .inl (x1), .inr (.inr ((RH x0 7)))], hp σ, 0, 0)) 2 rfl ?_
          refine T_iast rfl (fun _ => ?_)
          refine T_let (Sf := fun σ2 => (39, [(2, .inl (v1)), (0, .inr (.inr (x0))), (1, .inl (x1))], [], hp σ2, 0, 0)) (fun σ2 => ?_)
          refine T_go (S' := (41, [(3, .inl ((0 : Int32))), (2, .inl (v1)), (0, .inr (.inr (x0))), (1, .inl (x1))], [], hp σ2, 0, 0)) 2 rfl ?_
          refine T_loc (ls' := [(0, .inr (.inr (x0))), (1, .inl (x1)), (2, .inl (v1)), (3, .inl ((0 : Int32)))]) [2, 3, 1, 0] rfl ?_
          exact (ih.2) x0 x1 v1 (0 : Int32) σ2
    · intro x0 x1 x2 x3 σ
      unfold f_X12_goesOn_L0
      refine T_go (S' := (43, [(0, .inr (.inr (x0))), (1, .inl (x1)), (2, .inl (x2)), (3, .inl (x3))], [.inr (.inr (x0)), .inl (x3)], hp σ, 0, 0)) 2 rfl ?_
      refine T_getR rfl (fun _ => ?_)
      refine T_go (S' := (47, [(0, .inr (.inr (x0))), (1, .inl (x1)), (2, .inl (x2)), (3, .inl (x3))], [.inl (x1), .inr (.inr ((RH x0 7))), .inl (x3)], hp σ, 0, 0)) 1 rfl ?_
      refine T_iald rfl (fun _ => ?_)
      refine T_icmp_ge 81 rfl rfl (fun _ => ?_) (fun _ => ?_)
      · refine T_go (S' := (85, [(0, .inr (.inr (x0))), (1, .inl (x1)), (2, .inl (x2)), (3, .inl (x3))], [.inl ((16 : Int32)), .inl (x2), .inr (.inr (x0))], hp σ, 0, 0)) 3 rfl ?_
        refine T_irem rfl (fun _ => ?_)
        refine T_go (S' := (91, [(0, .inr (.inr (x0))), (1, .inl (x1)), (2, .inl (x2)), (3, .inl (x3))], [.inl ((256 : Int32)), .inl (x2), .inl (x1), .inl ((x2 - x2 / (16 : Int32) * (16 : Int32))), .inr (.inr (x0))], hp σ, 0, 0)) 3 rfl ?_
        refine T_idiv rfl (fun _ => ?_)
        refine T_go (S' := (94, [(0, .inr (.inr (x0))), (1, .inl (x1)), (2, .inl (x2)), (3, .inl (x3))], [.inl ((8 : Int32)), .inl ((x2 / (256 : Int32))), .inl (x1), .inl ((x2 - x2 / (16 : Int32) * (16 : Int32))), .inr (.inr (x0))], hp σ, 0, 0)) 1 rfl ?_
        refine T_irem rfl (fun _ => ?_)
        refine T_go (S' := (99, [(0, .inr (.inr (x0))), (1, .inl (x1)), (2, .inl (x2)), (3, .inl (x3))], [.inl ((2048 : Int32)), .inl (x2), .inl (((x2 / (256 : Int32)) - (x2 / (256 : Int32)) / (8 : Int32) * (8 : Int32))), .inl (x1), .inl ((x2 - x2 / (16 : Int32) * (16 : Int32))), .inr (.inr (x0))], hp σ, 0, 0)) 2 rfl ?_
        refine T_idiv rfl (fun _ => ?_)
        refine T_cv (i := iU) (as := [.inr (.inr (x0)), .inl ((x2 - x2 / (16 : Int32) * (16 : Int32))), .inl (x1), .inl (((x2 / (256 : Int32)) - (x2 / (256 : Int32)) / (8 : Int32) * (8 : Int32))), .inl ((x2 / (2048 : Int32)))]) (rest := []) (st := [.inl ((x2 / (2048 : Int32))), .inl (((x2 / (256 : Int32)) - (x2 / (256 : Int32)) / (8 : Int32) * (8 : Int32))), .inl (x1), .inl ((x2 - x2 / (16 : Int32) * (16 : Int32))), .inr (.inr (x0))]) rfl rfl rfl ⟨lb rfl, lb rfl, lb rfl, lb rfl⟩ (fun _ h => Ew_le (lb rfl) (s_X12_does x0 (x2 - x2 / (16 : Int32) * (16 : Int32)) x1 ((x2 / (256 : Int32)) - (x2 / (256 : Int32)) / (8 : Int32) * (8 : Int32)) (x2 / (2048 : Int32)) σ _ h)) (fun _ r1 => ?_)
        show Snd false none _ _ _ (cN iU) (103, [(0, .inr (.inr (x0))), (1, .inl (x1)), (2, .inl (x2)), (3, .inl (x3))], [], hp r1.2, 0, 0)
        refine T_go (S' := (0, [(0, .inr (.inr (x0))), (1, .inl (x1)), (2, .inl (x2)), (3, .inl (x3))], [], hp r1.2, 0, 0)) 1 rfl ?_
        refine T_loc (ls' := [(0, .inr (.inr (x0))), (1, .inl (x1))]) [0, 1] rfl ?_
        exact (ih.1) x0 x1 r1.2
      · refine T_go (S' := (52, [(0, .inr (.inr (x0))), (1, .inl (x1)), (2, .inl (x2)), (3, .inl (x3))], [.inr (.inr (x0))], hp σ, 0, 0)) 1 rfl ?_
        refine T_getR rfl (fun _ => ?_)
        refine T_go (S' := (62, [(0, .inr (.inr (x0))), (1, .inl (x1)), (2, .inl (x2)), (3, .inl (x3))], [.inr (.inr (x0)), .inl ((((8 : Int32) * x1) + x3)), .inr (.inr ((RH x0 8)))], hp σ, 0, 0)) 6 rfl ?_
        refine T_getR rfl (fun _ => ?_)
        refine T_go (S' := (73, [(0, .inr (.inr (x0))), (1, .inl (x1)), (2, .inl (x2)), (3, .inl (x3))], [.inl (((((8 : Int32) * x1) + x3) + (1 : Int32))), .inr (.inr ((RH x0 8))), .inl ((((8 : Int32) * x1) + x3)), .inr (.inr ((RH x0 8)))], hp σ, 0, 0)) 7 rfl ?_
        refine T_iald rfl (fun _ => ?_)
        refine T_iast rfl (fun _ => ?_)
        refine T_let (Sf := fun σ2 => (75, [(0, .inr (.inr (x0))), (1, .inl (x1)), (2, .inl (x2)), (3, .inl (x3))], [], hp σ2, 0, 0)) (fun σ2 => ?_)
        refine T_go (S' := (41, [(3, .inl ((x3 + (1 : Int32)))), (0, .inr (.inr (x0))), (1, .inl (x1)), (2, .inl (x2))], [], hp σ2, 0, 0)) 2 rfl ?_
        refine T_loc (ls' := [(0, .inr (.inr (x0))), (1, .inl (x1)), (2, .inl (x2)), (3, .inl ((x3 + (1 : Int32))))]) [1, 2, 3, 0] rfl ?_
        exact (ih.2) x0 x1 x2 (x3 + (1 : Int32)) σ2
def f_X12_goesOn (x0 : Nat) (x1 : Int32) (σ : eMem) : Option (Unit × eMem) :=
  f_X12_goesOn_L0 1000000 (.inl (x0, x1)) σ
set_option maxHeartbeats 4000000 in
set_option maxRecDepth 20000 in
theorem s_X12_goesOn (x0 : Nat) (x1 : Int32) (σ : eMem) : ∀ r, f_X12_goesOn x0 x1 σ = some r → Ew false 5 145 [.inr (.inr (x0)), .inl (x1)] (hp σ) (cN iU r) := by
  refine T_meth (md := m_X12_goesOn) (d0 := 4) (cv := (cN iU)) rfl (lb rfl) (lb rfl) ?_
  unfold f_X12_goesOn
  show Snd false none _ _ _ _ (0, [(0, .inr (.inr (x0))), (1, .inl (x1))], [], hp σ, 0, 0)
  refine T_loc (ls' := [(0, .inr (.inr (x0))), (1, .inl (x1))]) [0, 1] rfl ?_
  exact (s_X12_goesOn_L0 1000000).1 x0 x1 σ
def f_X12_atHome_73 (x0 : Nat) (x3 : Int32) (σ : eMem) : Option (Unit × eMem) :=
  if (KH x0).1 = 10 then
    Option.bind (f_X12_goesOn x0 x3 σ) (fun r1 =>
      some ((), r1.2)
      )
  else none
set_option maxHeartbeats 4000000 in
set_option maxRecDepth 20000 in
theorem s_X12_atHome_73 (x0 : Nat) (x3 : Int32) (σ : eMem) : Snd false none 5 m_X12_atHome (f_X12_atHome_73 x0 x3 σ) (cN iU) (73, [(0, .inr (.inr (x0))), (3, .inl (x3))], [], hp σ, 0, 0) := by
  unfold f_X12_atHome_73
  refine T_go (S' := (75, [(0, .inr (.inr (x0))), (3, .inl (x3))], [.inl (x3), .inr (.inr (x0))], hp σ, 0, 0)) 2 rfl ?_
  refine T_cv (i := iU) (as := [.inr (.inr (x0)), .inl (x3)]) (rest := []) (st := [.inl (x3), .inr (.inr (x0))]) rfl rfl rfl ⟨lb rfl, lb rfl, lb rfl, lb rfl⟩ (fun _ h => Ew_le (lb rfl) (s_X12_goesOn x0 x3 σ _ h)) (fun _ r1 => ?_)
  show Snd false none _ _ _ (cN iU) (78, [(0, .inr (.inr (x0))), (3, .inl (x3))], [], hp r1.2, 0, 0)
  exact T_ret rfl
def f_X12_atHome_57 (x0 : Nat) (x3 : Int32) (s0 : Nat) (s1 : Int32) (s2 : Int32) (σ : eMem) : Option (Unit × eMem) :=
  if (KH s0).1 = 11 ∧ eix s1 (KH s0).2 = true then eLet ((eup σ.1 s0 s1.toNatClampNeg s2, σ.2) : eMem) (fun σ1 =>
    if (KH x0).1 = 10 then
      if (KH (RH x0 6)).1 = 11 ∧ eix x3 (KH (RH x0 6)).2 = true then
        if (KH (RH x0 6)).1 = 11 ∧ eix x3 (KH (RH x0 6)).2 = true then eLet ((eup σ1.1 (RH x0 6) x3.toNatClampNeg ((σ1.1 (RH x0 6) x3.toNatClampNeg) - (1 : Int32)), σ1.2) : eMem) (fun σ2 =>
          if (KH x0).1 = 10 then
            Option.bind (f_X12_ends x0 x3 σ2) (fun r3 =>
              f_X12_atHome_73 x0 x3 r3.2
              )
          else none
          ) else none
      else none
    else none
    ) else none
set_option maxHeartbeats 4000000 in
set_option maxRecDepth 20000 in
theorem s_X12_atHome_57 (x0 : Nat) (x3 : Int32) (s0 : Nat) (s1 : Int32) (s2 : Int32) (σ : eMem) : Snd false none 5 m_X12_atHome (f_X12_atHome_57 x0 x3 s0 s1 s2 σ) (cN iU) (57, [(0, .inr (.inr (x0))), (3, .inl (x3))], [.inl (s2), .inl (s1), .inr (.inr (s0))], hp σ, 0, 0) := by
  unfold f_X12_atHome_57
  refine T_iast rfl (fun _ => ?_)
  refine T_let (Sf := fun σ1 => (58, [(0, .inr (.inr (x0))), (3, .inl (x3))], [], hp σ1, 0, 0)) (fun σ1 => ?_)
  refine T_go (S' := (59, [(0, .inr (.inr (x0))), (3, .inl (x3))], [.inr (.inr (x0))], hp σ1, 0, 0)) 1 rfl ?_
  refine T_getR rfl (fun _ => ?_)
  refine T_go (S' := (64, [(0, .inr (.inr (x0))), (3, .inl (x3))], [.inl (x3), .inr (.inr ((RH x0 6))), .inl (x3), .inr (.inr ((RH x0 6)))], hp σ1, 0, 0)) 2 rfl ?_
  refine T_iald rfl (fun _ => ?_)
  refine T_go (S' := (67, [(0, .inr (.inr (x0))), (3, .inl (x3))], [.inl (((σ1.1 (RH x0 6) x3.toNatClampNeg) - (1 : Int32))), .inl (x3), .inr (.inr ((RH x0 6)))], hp σ1, 0, 0)) 2 rfl ?_
  refine T_iast rfl (fun _ => ?_)
  refine T_let (Sf := fun σ2 => (68, [(0, .inr (.inr (x0))), (3, .inl (x3))], [], hp σ2, 0, 0)) (fun σ2 => ?_)
  refine T_go (S' := (70, [(0, .inr (.inr (x0))), (3, .inl (x3))], [.inl (x3), .inr (.inr (x0))], hp σ2, 0, 0)) 2 rfl ?_
  refine T_cv (i := iU) (as := [.inr (.inr (x0)), .inl (x3)]) (rest := []) (st := [.inl (x3), .inr (.inr (x0))]) rfl rfl rfl ⟨lb rfl, lb rfl, lb rfl, lb rfl⟩ (fun _ h => Ew_le (lb rfl) (s_X12_ends x0 x3 σ2 _ h)) (fun _ r3 => ?_)
  show Snd false none _ _ _ (cN iU) (73, [(0, .inr (.inr (x0))), (3, .inl (x3))], [], hp r3.2, 0, 0)
  refine T_loc (ls' := [(0, .inr (.inr (x0))), (3, .inl (x3))]) [0, 1] rfl ?_
  exact s_X12_atHome_73 x0 x3 r3.2
def f_X12_atHome (x0 : Nat) (x1 : Int32) (x2 : Int32) (x3 : Int32) (x4 : Int32) (x5 : Int32) (x6 : Int32) (σ : eMem) : Option (Unit × eMem) :=
  if ¬ x1 = (0 : Int32) then
    if (KH x0).1 = 10 then
      if ¬ x2 = (8 : Int32) then
        if (KH x0).1 = 10 then
          if (KH (RH x0 0)).1 = 11 ∧ eix x3 (KH (RH x0 0)).2 = true then
            f_X12_atHome_57 x0 x3 (RH x0 0) x3 (σ.1 (RH x0 0) x3.toNatClampNeg) σ
          else none
        else none
      else
        f_X12_atHome_57 x0 x3 (RH x0 0) x3 x5 σ
    else none
  else
    if (KH x0).1 = 10 then
      if (KH x0).1 = 10 then
        if (KH (RH x0 7)).1 = 11 ∧ eix x3 (KH (RH x0 7)).2 = true then
          if (KH (RH x0 8)).1 = 11 ∧ eix (((8 : Int32) * x3) + (σ.1 (RH x0 7) x3.toNatClampNeg)) (KH (RH x0 8)).2 = true then eLet ((eup σ.1 (RH x0 8) (((8 : Int32) * x3) + (σ.1 (RH x0 7) x3.toNatClampNeg)).toNatClampNeg x6, σ.2) : eMem) (fun σ1 =>
            if (KH x0).1 = 10 then
              if (KH (RH x0 7)).1 = 11 ∧ eix x3 (KH (RH x0 7)).2 = true then
                if (KH (RH x0 7)).1 = 11 ∧ eix x3 (KH (RH x0 7)).2 = true then eLet ((eup σ1.1 (RH x0 7) x3.toNatClampNeg ((σ1.1 (RH x0 7) x3.toNatClampNeg) + (1 : Int32)), σ1.2) : eMem) (fun σ2 =>
                  f_X12_atHome_73 x0 x3 σ2
                  ) else none
              else none
            else none
            ) else none
        else none
      else none
    else none
set_option maxHeartbeats 4000000 in
set_option maxRecDepth 20000 in
theorem s_X12_atHome (x0 : Nat) (x1 : Int32) (x2 : Int32) (x3 : Int32) (x4 : Int32) (x5 : Int32) (x6 : Int32) (σ : eMem) : ∀ r, f_X12_atHome x0 x1 x2 x3 x4 x5 x6 σ = some r → Ew false 6 146 [.inr (.inr (x0)), .inl (x1), .inl (x2), .inl (x3), .inl (x4), .inl (x5), .inl (x6)] (hp σ) (cN iU r) := by
  refine T_meth (md := m_X12_atHome) (d0 := 5) (cv := (cN iU)) rfl (lb rfl) (lb rfl) ?_
  unfold f_X12_atHome
  show Snd false none _ _ _ _ (0, [(0, .inr (.inr (x0))), (1, .inl (x1)), (2, .inl (x2)), (3, .inl (x3)), (4, .inl (x4)), (5, .inl (x5)), (6, .inl (x6))], [], hp σ, 0, 0)
  refine T_go (S' := (1, [(0, .inr (.inr (x0))), (1, .inl (x1)), (2, .inl (x2)), (3, .inl (x3)), (4, .inl (x4)), (5, .inl (x5)), (6, .inl (x6))], [.inl (x1)], hp σ, 0, 0)) 1 rfl ?_
  refine T_if_ne 35 rfl rfl (fun _ => ?_) (fun _ => ?_)
  · refine T_go (S' := (36, [(0, .inr (.inr (x0))), (1, .inl (x1)), (2, .inl (x2)), (3, .inl (x3)), (4, .inl (x4)), (5, .inl (x5)), (6, .inl (x6))], [.inr (.inr (x0))], hp σ, 0, 0)) 1 rfl ?_
    refine T_getR rfl (fun _ => ?_)
    refine T_go (S' := (43, [(0, .inr (.inr (x0))), (1, .inl (x1)), (2, .inl (x2)), (3, .inl (x3)), (4, .inl (x4)), (5, .inl (x5)), (6, .inl (x6))], [.inl ((8 : Int32)), .inl (x2), .inl (x3), .inr (.inr ((RH x0 0)))], hp σ, 0, 0)) 3 rfl ?_
    refine T_icmp_ne 51 rfl rfl (fun _ => ?_) (fun _ => ?_)
    · refine T_go (S' := (52, [(0, .inr (.inr (x0))), (1, .inl (x1)), (2, .inl (x2)), (3, .inl (x3)), (4, .inl (x4)), (5, .inl (x5)), (6, .inl (x6))], [.inr (.inr (x0)), .inl (x3), .inr (.inr ((RH x0 0)))], hp σ, 0, 0)) 1 rfl ?_
      refine T_getR rfl (fun _ => ?_)
      refine T_go (S' := (56, [(0, .inr (.inr (x0))), (1, .inl (x1)), (2, .inl (x2)), (3, .inl (x3)), (4, .inl (x4)), (5, .inl (x5)), (6, .inl (x6))], [.inl (x3), .inr (.inr ((RH x0 0))), .inl (x3), .inr (.inr ((RH x0 0)))], hp σ, 0, 0)) 1 rfl ?_
      refine T_iald rfl (fun _ => ?_)
      refine T_loc (ls' := [(0, .inr (.inr (x0))), (3, .inl (x3))]) [0, 3] rfl ?_
      exact s_X12_atHome_57 x0 x3 (RH x0 0) x3 (σ.1 (RH x0 0) x3.toNatClampNeg) σ
    · refine T_go (S' := (57, [(0, .inr (.inr (x0))), (1, .inl (x1)), (2, .inl (x2)), (3, .inl (x3)), (4, .inl (x4)), (5, .inl (x5)), (6, .inl (x6))], [.inl (x5), .inl (x3), .inr (.inr ((RH x0 0)))], hp σ, 0, 0)) 2 rfl ?_
      refine T_loc (ls' := [(0, .inr (.inr (x0))), (3, .inl (x3))]) [0, 3] rfl ?_
      exact s_X12_atHome_57 x0 x3 (RH x0 0) x3 x5 σ
  · refine T_go (S' := (5, [(0, .inr (.inr (x0))), (1, .inl (x1)), (2, .inl (x2)), (3, .inl (x3)), (4, .inl (x4)), (5, .inl (x5)), (6, .inl (x6))], [.inr (.inr (x0))], hp σ, 0, 0)) 1 rfl ?_
    refine T_getR rfl (fun _ => ?_)
    refine T_go (S' := (13, [(0, .inr (.inr (x0))), (1, .inl (x1)), (2, .inl (x2)), (3, .inl (x3)), (4, .inl (x4)), (5, .inl (x5)), (6, .inl (x6))], [.inr (.inr (x0)), .inl (((8 : Int32) * x3)), .inr (.inr ((RH x0 8)))], hp σ, 0, 0)) 4 rfl ?_
    refine T_getR rfl (fun _ => ?_)
    refine T_go (S' := (17, [(0, .inr (.inr (x0))), (1, .inl (x1)), (2, .inl (x2)), (3, .inl (x3)), (4, .inl (x4)), (5, .inl (x5)), (6, .inl (x6))], [.inl (x3), .inr (.inr ((RH x0 7))), .inl (((8 : Int32) * x3)), .inr (.inr ((RH x0 8)))], hp σ, 0, 0)) 1 rfl ?_
    refine T_iald rfl (fun _ => ?_)
    refine T_go (S' := (21, [(0, .inr (.inr (x0))), (1, .inl (x1)), (2, .inl (x2)), (3, .inl (x3)), (4, .inl (x4)), (5, .inl (x5)), (6, .inl (x6))], [.inl (x6), .inl ((((8 : Int32) * x3) + (σ.1 (RH x0 7) x3.toNatClampNeg))), .inr (.inr ((RH x0 8)))], hp σ, 0, 0)) 2 rfl ?_
    refine T_iast rfl (fun _ => ?_)
    refine T_let (Sf := fun σ1 => (22, [(0, .inr (.inr (x0))), (1, .inl (x1)), (2, .inl (x2)), (3, .inl (x3)), (4, .inl (x4)), (5, .inl (x5)), (6, .inl (x6))], [], hp σ1, 0, 0)) (fun σ1 => ?_)
    refine T_go (S' := (23, [(0, .inr (.inr (x0))), (1, .inl (x1)), (2, .inl (x2)), (3, .inl (x3)), (4, .inl (x4)), (5, .inl (x5)), (6, .inl (x6))], [.inr (.inr (x0))], hp σ1, 0, 0)) 1 rfl ?_
    refine T_getR rfl (fun _ => ?_)
    refine T_go (S' := (28, [(0, .inr (.inr (x0))), (1, .inl (x1)), (2, .inl (x2)), (3, .inl (x3)), (4, .inl (x4)), (5, .inl (x5)), (6, .inl (x6))], [.inl (x3), .inr (.inr ((RH x0 7))), .inl (x3), .inr (.inr ((RH x0 7)))], hp σ1, 0, 0)) 2 rfl ?_
    refine T_iald rfl (fun _ => ?_)
    refine T_go (S' := (31, [(0, .inr (.inr (x0))), (1, .inl (x1)), (2, .inl (x2)), (3, .inl (x3)), (4, .inl (x4)), (5, .inl (x5)), (6, .inl (x6))], [.inl (((σ1.1 (RH x0 7) x3.toNatClampNeg) + (1 : Int32))), .inl (x3), .inr (.inr ((RH x0 7)))], hp σ1, 0, 0)) 2 rfl ?_
    refine T_iast rfl (fun _ => ?_)
    refine T_let (Sf := fun σ2 => (32, [(0, .inr (.inr (x0))), (1, .inl (x1)), (2, .inl (x2)), (3, .inl (x3)), (4, .inl (x4)), (5, .inl (x5)), (6, .inl (x6))], [], hp σ2, 0, 0)) (fun σ2 => ?_)
    refine T_go (S' := (73, [(0, .inr (.inr (x0))), (1, .inl (x1)), (2, .inl (x2)), (3, .inl (x3)), (4, .inl (x4)), (5, .inl (x5)), (6, .inl (x6))], [], hp σ2, 0, 0)) 1 rfl ?_
    refine T_loc (ls' := [(0, .inr (.inr (x0))), (3, .inl (x3))]) [0, 3] rfl ?_
    exact s_X12_atHome_73 x0 x3 σ2
def f_X12_placeOf_L7 : Nat → (Nat × Int32 × Int32 × Int32 × Int32 ⊕ (Nat × Int32 × Int32 × Int32 × Int32 ⊕ (Nat × Int32 × Int32 × Int32 × Int32))) → eMem → Option (Int32 × eMem)
  | 0, _, _ => none
  | n + 1, .inl (x0, x1, x2, x3, x4), σ =>
    if (((4 : Int32) * x1) + (4 : Int32)) ≤ x4 then
      some (x3, σ)
    else
      if (KH x0).1 = 10 then
        if (KH (RH x0 13)).1 = 11 ∧ eix x4 (KH (RH x0 13)).2 = true then
          if (σ.1 (RH x0 13) x4.toNatClampNeg) = (0 : Int32) then
            f_X12_placeOf_L7 n (.inr (.inl (x0, x1, x2, x3, x4))) σ
          else
            if (KH x0).1 = 10 then
              if (KH (RH x0 12)).1 = 11 ∧ eix x4 (KH (RH x0 12)).2 = true then
                if ¬ (σ.1 (RH x0 12) x4.toNatClampNeg) = x2 then
                  f_X12_placeOf_L7 n (.inr (.inl (x0, x1, x2, x3, x4))) σ
                else
                  f_X12_placeOf_L7 n (.inr (.inr ((x0, x1, x2, x4, x4)))) σ
              else none
            else none
        else none
      else none
  | n + 1, .inr (.inl (x0, x1, x2, x3, x4)), σ =>
    f_X12_placeOf_L7 n (.inr (.inr ((x0, x1, x2, x4, x3)))) σ
  | n + 1, .inr (.inr ((x0, x1, x2, x4, s0))), σ =>
    f_X12_placeOf_L7 n (.inl (x0, x1, x2, s0, (x4 + (1 : Int32)))) σ
set_option maxHeartbeats 4000000 in
set_option maxRecDepth 20000 in
theorem s_X12_placeOf_L7 : ∀ (n : Nat), (∀ (x0 : Nat) (x1 : Int32) (x2 : Int32) (x3 : Int32) (x4 : Int32) (σ : eMem), Snd false none 0 m_X12_placeOf (f_X12_placeOf_L7 n (.inl (x0, x1, x2, x3, x4)) σ) (cN iI) (7, [(0, .inr (.inr (x0))), (1, .inl (x1)), (2, .inl (x2)), (3, .inl (x3)), (4, .inl (x4))], [], hp σ, 0, 0)) ∧ (∀ (x0 : Nat) (x1 : Int32) (x2 : Int32) (x3 : Int32) (x4 : Int32) (σ : eMem), Snd false none 0 m_X12_placeOf (f_X12_placeOf_L7 n (.inr (.inl (x0, x1, x2, x3, x4))) σ) (cN iI) (43, [(0, .inr (.inr (x0))), (1, .inl (x1)), (2, .inl (x2)), (3, .inl (x3)), (4, .inl (x4))], [], hp σ, 0, 0)) ∧ (∀ (x0 : Nat) (x1 : Int32) (x2 : Int32) (x4 : Int32) (s0 : Int32) (σ : eMem), Snd false none 0 m_X12_placeOf (f_X12_placeOf_L7 n (.inr (.inr ((x0, x1, x2, x4, s0)))) σ) (cN iI) (44, [(0, .inr (.inr (x0))), (1, .inl (x1)), (2, .inl (x2)), (4, .inl (x4))], [.inl (s0)], hp σ, 0, 0)) := by
  intro n
  induction n with
  | zero => exact ⟨fun _ _ _ _ _ _ => T_none, fun _ _ _ _ _ _ => T_none, fun _ _ _ _ _ _ => T_none⟩
  | succ n ih =>
    refine ⟨?_, ?_, ?_⟩
    · intro x0 x1 x2 x3 x4 σ
      unfold f_X12_placeOf_L7
      refine T_go (S' := (14, [(0, .inr (.inr (x0))), (1, .inl (x1)), (2, .inl (x2)), (3, .inl (x3)), (4, .inl (x4))], [.inl ((((4 : Int32) * x1) + (4 : Int32))), .inl (x4)], hp σ, 0, 0)) 6 rfl ?_
      refine T_icmp_ge 51 rfl rfl (fun _ => ?_) (fun _ => ?_)
      · refine T_go (S' := (52, [(0, .inr (.inr (x0))), (1, .inl (x1)), (2, .inl (x2)), (3, .inl (x3)), (4, .inl (x4))], [.inl (x3)], hp σ, 0, 0)) 1 rfl ?_
        exact T_ret rfl
      · refine T_go (S' := (18, [(0, .inr (.inr (x0))), (1, .inl (x1)), (2, .inl (x2)), (3, .inl (x3)), (4, .inl (x4))], [.inr (.inr (x0))], hp σ, 0, 0)) 1 rfl ?_
        refine T_getR rfl (fun _ => ?_)
        refine T_go (S' := (23, [(0, .inr (.inr (x0))), (1, .inl (x1)), (2, .inl (x2)), (3, .inl (x3)), (4, .inl (x4))], [.inl (x4), .inr (.inr ((RH x0 13)))], hp σ, 0, 0)) 1 rfl ?_
        refine T_iald rfl (fun _ => ?_)
        refine T_if_eq 43 rfl rfl (fun _ => ?_) (fun _ => ?_)
        · refine T_loc (ls' := [(0, .inr (.inr (x0))), (1, .inl (x1)), (2, .inl (x2)), (3, .inl (x3)), (4, .inl (x4))]) [0, 1, 2, 3, 4] rfl ?_
          exact (ih.2.1) x0 x1 x2 x3 x4 σ
        · refine T_go (S' := (28, [(0, .inr (.inr (x0))), (1, .inl (x1)), (2, .inl (x2)), (3, .inl (x3)), (4, .inl (x4))], [.inr (.inr (x0))], hp σ, 0, 0)) 1 rfl ?_
          refine T_getR rfl (fun _ => ?_)
          refine T_go (S' := (33, [(0, .inr (.inr (x0))), (1, .inl (x1)), (2, .inl (x2)), (3, .inl (x3)), (4, .inl (x4))], [.inl (x4), .inr (.inr ((RH x0 12)))], hp σ, 0, 0)) 1 rfl ?_
          refine T_iald rfl (fun _ => ?_)
          refine T_go (S' := (35, [(0, .inr (.inr (x0))), (1, .inl (x1)), (2, .inl (x2)), (3, .inl (x3)), (4, .inl (x4))], [.inl (x2), .inl ((σ.1 (RH x0 12) x4.toNatClampNeg))], hp σ, 0, 0)) 1 rfl ?_
          refine T_icmp_ne 43 rfl rfl (fun _ => ?_) (fun _ => ?_)
          · refine T_loc (ls' := [(0, .inr (.inr (x0))), (1, .inl (x1)), (2, .inl (x2)), (3, .inl (x3)), (4, .inl (x4))]) [0, 1, 2, 3, 4] rfl ?_
            exact (ih.2.1) x0 x1 x2 x3 x4 σ
          · refine T_go (S' := (44, [(0, .inr (.inr (x0))), (1, .inl (x1)), (2, .inl (x2)), (3, .inl (x3)), (4, .inl (x4))], [.inl (x4)], hp σ, 0, 0)) 2 rfl ?_
            refine T_loc (ls' := [(0, .inr (.inr (x0))), (1, .inl (x1)), (2, .inl (x2)), (4, .inl (x4))]) [0, 1, 2, 4] rfl ?_
            exact (ih.2.2) x0 x1 x2 x4 x4 σ
    · intro x0 x1 x2 x3 x4 σ
      unfold f_X12_placeOf_L7
      refine T_go (S' := (44, [(0, .inr (.inr (x0))), (1, .inl (x1)), (2, .inl (x2)), (3, .inl (x3)), (4, .inl (x4))], [.inl (x3)], hp σ, 0, 0)) 1 rfl ?_
      refine T_loc (ls' := [(0, .inr (.inr (x0))), (1, .inl (x1)), (2, .inl (x2)), (4, .inl (x4))]) [0, 1, 2, 4] rfl ?_
      exact (ih.2.2) x0 x1 x2 x4 x3 σ
    · intro x0 x1 x2 x4 s0 σ
      unfold f_X12_placeOf_L7
      refine T_go (S' := (7, [(4, .inl ((x4 + (1 : Int32)))), (3, .inl (s0)), (0, .inr (.inr (x0))), (1, .inl (x1)), (2, .inl (x2))], [], hp σ, 0, 0)) 3 rfl ?_
      refine T_loc (ls' := [(0, .inr (.inr (x0))), (1, .inl (x1)), (2, .inl (x2)), (3, .inl (s0)), (4, .inl ((x4 + (1 : Int32))))]) [2, 3, 4, 1, 0] rfl ?_
      exact (ih.1) x0 x1 x2 s0 (x4 + (1 : Int32)) σ
def f_X12_placeOf (x0 : Nat) (x1 : Int32) (x2 : Int32) (σ : eMem) : Option (Int32 × eMem) :=
  eLet (((4 : Int32) * x1) : Int32) (fun v1 =>
    f_X12_placeOf_L7 1000000 (.inl (x0, x1, x2, (-1 : Int32), v1)) σ
    )
set_option maxHeartbeats 4000000 in
set_option maxRecDepth 20000 in
theorem s_X12_placeOf (x0 : Nat) (x1 : Int32) (x2 : Int32) (σ : eMem) : ∀ r, f_X12_placeOf x0 x1 x2 σ = some r → Ew false 1 147 [.inr (.inr (x0)), .inl (x1), .inl (x2)] (hp σ) (cN iI r) := by
  refine T_meth (md := m_X12_placeOf) (d0 := 0) (cv := (cN iI)) rfl (lb rfl) (lb rfl) ?_
  unfold f_X12_placeOf
  show Snd false none _ _ _ _ (0, [(0, .inr (.inr (x0))), (1, .inl (x1)), (2, .inl (x2))], [], hp σ, 0, 0)
  refine T_go (S' := (7, [(4, .inl (((4 : Int32) * x1))), (3, .inl ((-1 : Int32))), (0, .inr (.inr (x0))), (1, .inl (x1)), (2, .inl (x2))], [], hp σ, 0, 0)) 6 rfl ?_
  refine T_let (Sf := fun v1 => (7, [(4, .inl (v1)), (3, .inl ((-1 : Int32))), (0, .inr (.inr (x0))), (1, .inl (x1)), (2, .inl (x2))], [], hp σ, 0, 0)) (fun v1 => ?_)
  refine T_loc (ls' := [(0, .inr (.inr (x0))), (1, .inl (x1)), (2, .inl (x2)), (3, .inl ((-1 : Int32))), (4, .inl (v1))]) [2, 3, 4, 1, 0] rfl ?_
  exact (s_X12_placeOf_L7 1000000).1 x0 x1 x2 (-1 : Int32) v1 σ
def f_X12_emptyPlace_L10 : Nat → (Nat × Int32 × Int32 × Int32 ⊕ (Nat × Int32 × Int32 × Int32)) → eMem → Option (Int32 × eMem)
  | 0, _, _ => none
  | n + 1, .inl (x0, x1, x2, x3), σ =>
    if x3 < ((4 : Int32) * x1) then
      some (x2, σ)
    else
      if (KH x0).1 = 10 then
        if (KH (RH x0 13)).1 = 11 ∧ eix x3 (KH (RH x0 13)).2 = true then
          if ¬ (σ.1 (RH x0 13) x3.toNatClampNeg) = (0 : Int32) then
            f_X12_emptyPlace_L10 n (.inr ((x0, x1, x3, x2))) σ
          else
            f_X12_emptyPlace_L10 n (.inr ((x0, x1, x3, x3))) σ
        else none
      else none
  | n + 1, .inr ((x0, x1, x3, s0)), σ =>
    f_X12_emptyPlace_L10 n (.inl (x0, x1, s0, (x3 + (-1 : Int32)))) σ
set_option maxHeartbeats 4000000 in
set_option maxRecDepth 20000 in
theorem s_X12_emptyPlace_L10 : ∀ (n : Nat), (∀ (x0 : Nat) (x1 : Int32) (x2 : Int32) (x3 : Int32) (σ : eMem), Snd false none 0 m_X12_emptyPlace (f_X12_emptyPlace_L10 n (.inl (x0, x1, x2, x3)) σ) (cN iI) (10, [(0, .inr (.inr (x0))), (1, .inl (x1)), (2, .inl (x2)), (3, .inl (x3))], [], hp σ, 0, 0)) ∧ (∀ (x0 : Nat) (x1 : Int32) (x3 : Int32) (s0 : Int32) (σ : eMem), Snd false none 0 m_X12_emptyPlace (f_X12_emptyPlace_L10 n (.inr ((x0, x1, x3, s0))) σ) (cN iI) (31, [(0, .inr (.inr (x0))), (1, .inl (x1)), (3, .inl (x3))], [.inl (s0)], hp σ, 0, 0)) := by
  intro n
  induction n with
  | zero => exact ⟨fun _ _ _ _ _ => T_none, fun _ _ _ _ _ => T_none⟩
  | succ n ih =>
    refine ⟨?_, ?_⟩
    · intro x0 x1 x2 x3 σ
      unfold f_X12_emptyPlace_L10
      refine T_go (S' := (14, [(0, .inr (.inr (x0))), (1, .inl (x1)), (2, .inl (x2)), (3, .inl (x3))], [.inl (((4 : Int32) * x1)), .inl (x3)], hp σ, 0, 0)) 4 rfl ?_
      refine T_icmp_lt 38 rfl rfl (fun _ => ?_) (fun _ => ?_)
      · refine T_go (S' := (39, [(0, .inr (.inr (x0))), (1, .inl (x1)), (2, .inl (x2)), (3, .inl (x3))], [.inl (x2)], hp σ, 0, 0)) 1 rfl ?_
        exact T_ret rfl
      · refine T_go (S' := (18, [(0, .inr (.inr (x0))), (1, .inl (x1)), (2, .inl (x2)), (3, .inl (x3))], [.inr (.inr (x0))], hp σ, 0, 0)) 1 rfl ?_
        refine T_getR rfl (fun _ => ?_)
        refine T_go (S' := (22, [(0, .inr (.inr (x0))), (1, .inl (x1)), (2, .inl (x2)), (3, .inl (x3))], [.inl (x3), .inr (.inr ((RH x0 13)))], hp σ, 0, 0)) 1 rfl ?_
        refine T_iald rfl (fun _ => ?_)
        refine T_if_ne 30 rfl rfl (fun _ => ?_) (fun _ => ?_)
        · refine T_go (S' := (31, [(0, .inr (.inr (x0))), (1, .inl (x1)), (2, .inl (x2)), (3, .inl (x3))], [.inl (x2)], hp σ, 0, 0)) 1 rfl ?_
          refine T_loc (ls' := [(0, .inr (.inr (x0))), (1, .inl (x1)), (3, .inl (x3))]) [0, 1, 3] rfl ?_
          exact (ih.2) x0 x1 x3 x2 σ
        · refine T_go (S' := (31, [(0, .inr (.inr (x0))), (1, .inl (x1)), (2, .inl (x2)), (3, .inl (x3))], [.inl (x3)], hp σ, 0, 0)) 2 rfl ?_
          refine T_loc (ls' := [(0, .inr (.inr (x0))), (1, .inl (x1)), (3, .inl (x3))]) [0, 1, 3] rfl ?_
          exact (ih.2) x0 x1 x3 x3 σ
    · intro x0 x1 x3 s0 σ
      unfold f_X12_emptyPlace_L10
      refine T_go (S' := (10, [(3, .inl ((x3 + (-1 : Int32)))), (2, .inl (s0)), (0, .inr (.inr (x0))), (1, .inl (x1))], [], hp σ, 0, 0)) 3 rfl ?_
      refine T_loc (ls' := [(0, .inr (.inr (x0))), (1, .inl (x1)), (2, .inl (s0)), (3, .inl ((x3 + (-1 : Int32))))]) [2, 3, 1, 0] rfl ?_
      exact (ih.1) x0 x1 s0 (x3 + (-1 : Int32)) σ
def f_X12_emptyPlace (x0 : Nat) (x1 : Int32) (σ : eMem) : Option (Int32 × eMem) :=
  eLet (((((4 : Int32) * x1) + (4 : Int32)) - (1 : Int32)) : Int32) (fun v1 =>
    f_X12_emptyPlace_L10 1000000 (.inl (x0, x1, (-1 : Int32), v1)) σ
    )
set_option maxHeartbeats 4000000 in
set_option maxRecDepth 20000 in
theorem s_X12_emptyPlace (x0 : Nat) (x1 : Int32) (σ : eMem) : ∀ r, f_X12_emptyPlace x0 x1 σ = some r → Ew false 1 148 [.inr (.inr (x0)), .inl (x1)] (hp σ) (cN iI r) := by
  refine T_meth (md := m_X12_emptyPlace) (d0 := 0) (cv := (cN iI)) rfl (lb rfl) (lb rfl) ?_
  unfold f_X12_emptyPlace
  show Snd false none _ _ _ _ (0, [(0, .inr (.inr (x0))), (1, .inl (x1))], [], hp σ, 0, 0)
  refine T_go (S' := (10, [(3, .inl (((((4 : Int32) * x1) + (4 : Int32)) - (1 : Int32)))), (2, .inl ((-1 : Int32))), (0, .inr (.inr (x0))), (1, .inl (x1))], [], hp σ, 0, 0)) 10 rfl ?_
  refine T_let (Sf := fun v1 => (10, [(3, .inl (v1)), (2, .inl ((-1 : Int32))), (0, .inr (.inr (x0))), (1, .inl (x1))], [], hp σ, 0, 0)) (fun v1 => ?_)
  refine T_loc (ls' := [(0, .inr (.inr (x0))), (1, .inl (x1)), (2, .inl ((-1 : Int32))), (3, .inl (v1))]) [2, 3, 1, 0] rfl ?_
  exact (s_X12_emptyPlace_L10 1000000).1 x0 x1 (-1 : Int32) v1 σ
def f_X12_isWaiting_15 (s0 : Int32) (σ : eMem) : Option (Int32 × eMem) :=
  if eB s0 = true then some (s0, σ) else none
set_option maxHeartbeats 4000000 in
set_option maxRecDepth 20000 in
theorem s_X12_isWaiting_15 (s0 : Int32) (σ : eMem) : Snd false none 0 m_X12_isWaiting (f_X12_isWaiting_15 s0 σ) (cN iI) (15, [], [.inl (s0)], hp σ, 0, 0) := by
  unfold f_X12_isWaiting_15
  exact T_chkr rfl
def f_X12_isWaiting_10  (σ : eMem) : Option (Int32 × eMem) :=
  f_X12_isWaiting_15 (1 : Int32) σ
set_option maxHeartbeats 4000000 in
set_option maxRecDepth 20000 in
theorem s_X12_isWaiting_10  (σ : eMem) : Snd false none 0 m_X12_isWaiting (f_X12_isWaiting_10 σ) (cN iI) (10, [], [], hp σ, 0, 0) := by
  unfold f_X12_isWaiting_10
  refine T_go (S' := (15, [], [.inl ((1 : Int32))], hp σ, 0, 0)) 2 rfl ?_
  refine T_loc (ls' := []) [] rfl ?_
  exact s_X12_isWaiting_15 (1 : Int32) σ
def f_X12_isWaiting (x0 : Int32) (σ : eMem) : Option (Int32 × eMem) :=
  if x0 = (4 : Int32) then
    f_X12_isWaiting_10  σ
  else
    if ¬ x0 = (5 : Int32) then
      f_X12_isWaiting_15 (0 : Int32) σ
    else
      f_X12_isWaiting_10  σ
set_option maxHeartbeats 4000000 in
set_option maxRecDepth 20000 in
theorem s_X12_isWaiting (x0 : Int32) (σ : eMem) : ∀ r, f_X12_isWaiting x0 σ = some r → Ew false 1 149 [.inl (x0)] (hp σ) (cN iI r) := by
  refine T_meth (md := m_X12_isWaiting) (d0 := 0) (cv := (cN iI)) rfl (lb rfl) (lb rfl) ?_
  unfold f_X12_isWaiting
  show Snd false none _ _ _ _ (0, [(0, .inl (x0))], [], hp σ, 0, 0)
  refine T_go (S' := (2, [(0, .inl (x0))], [.inl ((4 : Int32)), .inl (x0)], hp σ, 0, 0)) 2 rfl ?_
  refine T_icmp_eq 10 rfl rfl (fun _ => ?_) (fun _ => ?_)
  · refine T_loc (ls' := []) [] rfl ?_
    exact s_X12_isWaiting_10  σ
  · refine T_go (S' := (7, [(0, .inl (x0))], [.inl ((5 : Int32)), .inl (x0)], hp σ, 0, 0)) 2 rfl ?_
    refine T_icmp_ne 14 rfl rfl (fun _ => ?_) (fun _ => ?_)
    · refine T_go (S' := (15, [(0, .inl (x0))], [.inl ((0 : Int32))], hp σ, 0, 0)) 1 rfl ?_
      refine T_loc (ls' := []) [] rfl ?_
      exact s_X12_isWaiting_15 (0 : Int32) σ
    · refine T_loc (ls' := []) [] rfl ?_
      exact s_X12_isWaiting_10  σ
def f_X12_isOwned_15 (s0 : Int32) (σ : eMem) : Option (Int32 × eMem) :=
  if eB s0 = true then some (s0, σ) else none
set_option maxHeartbeats 4000000 in
set_option maxRecDepth 20000 in
theorem s_X12_isOwned_15 (s0 : Int32) (σ : eMem) : Snd false none 0 m_X12_isOwned (f_X12_isOwned_15 s0 σ) (cN iI) (15, [], [.inl (s0)], hp σ, 0, 0) := by
  unfold f_X12_isOwned_15
  exact T_chkr rfl
def f_X12_isOwned_10  (σ : eMem) : Option (Int32 × eMem) :=
  f_X12_isOwned_15 (1 : Int32) σ
set_option maxHeartbeats 4000000 in
set_option maxRecDepth 20000 in
theorem s_X12_isOwned_10  (σ : eMem) : Snd false none 0 m_X12_isOwned (f_X12_isOwned_10 σ) (cN iI) (10, [], [], hp σ, 0, 0) := by
  unfold f_X12_isOwned_10
  refine T_go (S' := (15, [], [.inl ((1 : Int32))], hp σ, 0, 0)) 2 rfl ?_
  refine T_loc (ls' := []) [] rfl ?_
  exact s_X12_isOwned_15 (1 : Int32) σ
def f_X12_isOwned (x0 : Int32) (σ : eMem) : Option (Int32 × eMem) :=
  if x0 = (2 : Int32) then
    f_X12_isOwned_10  σ
  else
    if ¬ x0 = (3 : Int32) then
      f_X12_isOwned_15 (0 : Int32) σ
    else
      f_X12_isOwned_10  σ
set_option maxHeartbeats 4000000 in
set_option maxRecDepth 20000 in
theorem s_X12_isOwned (x0 : Int32) (σ : eMem) : ∀ r, f_X12_isOwned x0 σ = some r → Ew false 1 150 [.inl (x0)] (hp σ) (cN iI r) := by
  refine T_meth (md := m_X12_isOwned) (d0 := 0) (cv := (cN iI)) rfl (lb rfl) (lb rfl) ?_
  unfold f_X12_isOwned
  show Snd false none _ _ _ _ (0, [(0, .inl (x0))], [], hp σ, 0, 0)
  refine T_go (S' := (2, [(0, .inl (x0))], [.inl ((2 : Int32)), .inl (x0)], hp σ, 0, 0)) 2 rfl ?_
  refine T_icmp_eq 10 rfl rfl (fun _ => ?_) (fun _ => ?_)
  · refine T_loc (ls' := []) [] rfl ?_
    exact s_X12_isOwned_10  σ
  · refine T_go (S' := (7, [(0, .inl (x0))], [.inl ((3 : Int32)), .inl (x0)], hp σ, 0, 0)) 2 rfl ?_
    refine T_icmp_ne 14 rfl rfl (fun _ => ?_) (fun _ => ?_)
    · refine T_go (S' := (15, [(0, .inl (x0))], [.inl ((0 : Int32))], hp σ, 0, 0)) 1 rfl ?_
      refine T_loc (ls' := []) [] rfl ?_
      exact s_X12_isOwned_15 (0 : Int32) σ
    · refine T_loc (ls' := []) [] rfl ?_
      exact s_X12_isOwned_10  σ
def f_X12_isIn_35 (s0 : Int32) (σ : eMem) : Option (Int32 × eMem) :=
  if eB s0 = true then some (s0, σ) else none
set_option maxHeartbeats 4000000 in
set_option maxRecDepth 20000 in
theorem s_X12_isIn_35 (s0 : Int32) (σ : eMem) : Snd false none 0 m_X12_isIn (f_X12_isIn_35 s0 σ) (cN iI) (35, [], [.inl (s0)], hp σ, 0, 0) := by
  unfold f_X12_isIn_35
  exact T_chkr rfl
def f_X12_isIn_34  (σ : eMem) : Option (Int32 × eMem) :=
  f_X12_isIn_35 (0 : Int32) σ
set_option maxHeartbeats 4000000 in
set_option maxRecDepth 20000 in
theorem s_X12_isIn_34  (σ : eMem) : Snd false none 0 m_X12_isIn (f_X12_isIn_34 σ) (cN iI) (34, [], [], hp σ, 0, 0) := by
  unfold f_X12_isIn_34
  refine T_go (S' := (35, [], [.inl ((0 : Int32))], hp σ, 0, 0)) 1 rfl ?_
  refine T_loc (ls' := []) [] rfl ?_
  exact s_X12_isIn_35 (0 : Int32) σ
def f_X12_isIn (x0 : Nat) (x1 : Int32) (x2 : Int32) (σ : eMem) : Option (Int32 × eMem) :=
  if (KH x0).1 = 10 then
    if (KH (RH x0 23)).1 = 13 ∧ eix x1 (KH (RH x0 23)).2 = true then
      if (σ.1 (RH x0 23) x1.toNatClampNeg) = (0 : Int32) then
        f_X12_isIn_34  σ
      else
        if (KH x0).1 = 10 then
          if (KH (RH x0 26)).1 = 11 ∧ eix x1 (KH (RH x0 26)).2 = true then
            if (KH x0).1 = 10 then
              if (KH (RH x0 27)).1 = 11 ∧ eix x1 (KH (RH x0 27)).2 = true then
                if ¬ ((((σ.1 (RH x0 26) x1.toNatClampNeg) ||| (σ.1 (RH x0 27) x1.toNatClampNeg)) >>> (x2 &&& 31)) &&& (1 : Int32)) = (1 : Int32) then
                  f_X12_isIn_34  σ
                else
                  f_X12_isIn_35 (1 : Int32) σ
              else none
            else none
          else none
        else none
    else none
  else none
set_option maxHeartbeats 4000000 in
set_option maxRecDepth 20000 in
theorem s_X12_isIn (x0 : Nat) (x1 : Int32) (x2 : Int32) (σ : eMem) : ∀ r, f_X12_isIn x0 x1 x2 σ = some r → Ew false 1 151 [.inr (.inr (x0)), .inl (x1), .inl (x2)] (hp σ) (cN iI r) := by
  refine T_meth (md := m_X12_isIn) (d0 := 0) (cv := (cN iI)) rfl (lb rfl) (lb rfl) ?_
  unfold f_X12_isIn
  show Snd false none _ _ _ _ (0, [(0, .inr (.inr (x0))), (1, .inl (x1)), (2, .inl (x2))], [], hp σ, 0, 0)
  refine T_go (S' := (1, [(0, .inr (.inr (x0))), (1, .inl (x1)), (2, .inl (x2))], [.inr (.inr (x0))], hp σ, 0, 0)) 1 rfl ?_
  refine T_getR rfl (fun _ => ?_)
  refine T_go (S' := (5, [(0, .inr (.inr (x0))), (1, .inl (x1)), (2, .inl (x2))], [.inl (x1), .inr (.inr ((RH x0 23)))], hp σ, 0, 0)) 1 rfl ?_
  refine T_bald rfl (fun _ => ?_)
  refine T_if_eq 34 rfl rfl (fun _ => ?_) (fun _ => ?_)
  · refine T_loc (ls' := []) [] rfl ?_
    exact s_X12_isIn_34  σ
  · refine T_go (S' := (10, [(0, .inr (.inr (x0))), (1, .inl (x1)), (2, .inl (x2))], [.inr (.inr (x0))], hp σ, 0, 0)) 1 rfl ?_
    refine T_getR rfl (fun _ => ?_)
    refine T_go (S' := (14, [(0, .inr (.inr (x0))), (1, .inl (x1)), (2, .inl (x2))], [.inl (x1), .inr (.inr ((RH x0 26)))], hp σ, 0, 0)) 1 rfl ?_
    refine T_iald rfl (fun _ => ?_)
    refine T_go (S' := (16, [(0, .inr (.inr (x0))), (1, .inl (x1)), (2, .inl (x2))], [.inr (.inr (x0)), .inl ((σ.1 (RH x0 26) x1.toNatClampNeg))], hp σ, 0, 0)) 1 rfl ?_
    refine T_getR rfl (fun _ => ?_)
    refine T_go (S' := (20, [(0, .inr (.inr (x0))), (1, .inl (x1)), (2, .inl (x2))], [.inl (x1), .inr (.inr ((RH x0 27))), .inl ((σ.1 (RH x0 26) x1.toNatClampNeg))], hp σ, 0, 0)) 1 rfl ?_
    refine T_iald rfl (fun _ => ?_)
    refine T_go (S' := (27, [(0, .inr (.inr (x0))), (1, .inl (x1)), (2, .inl (x2))], [.inl ((1 : Int32)), .inl (((((σ.1 (RH x0 26) x1.toNatClampNeg) ||| (σ.1 (RH x0 27) x1.toNatClampNeg)) >>> (x2 &&& 31)) &&& (1 : Int32)))], hp σ, 0, 0)) 6 rfl ?_
    refine T_icmp_ne 34 rfl rfl (fun _ => ?_) (fun _ => ?_)
    · refine T_loc (ls' := []) [] rfl ?_
      exact s_X12_isIn_34  σ
    · refine T_go (S' := (35, [(0, .inr (.inr (x0))), (1, .inl (x1)), (2, .inl (x2))], [.inl ((1 : Int32))], hp σ, 0, 0)) 2 rfl ?_
      refine T_loc (ls' := []) [] rfl ?_
      exact s_X12_isIn_35 (1 : Int32) σ
def f_X12_victim_L6 : Nat → (Nat × Int32 × Int32 × Int32 ⊕ (Nat × Int32 × Int32 × Int32 ⊕ (Nat × Int32 × Int32 × Int32 × Int32 ⊕ (Nat × Int32 × Int32 ⊕ (Nat × Int32 × Int32 × Int32 ⊕ (Nat × Int32 × Int32 × Int32)))))) → eMem → Option (Int32 × eMem)
  | 0, _, _ => none
  | n + 1, .inl (x0, x1, x2, x3), σ =>
    if (((4 : Int32) * x1) + (4 : Int32)) ≤ x3 then
      some (x2, σ)
    else
      if (KH x0).1 = 10 then
        if (KH (RH x0 13)).1 = 11 ∧ eix x3 (KH (RH x0 13)).2 = true then
          if (σ.1 (RH x0 13) x3.toNatClampNeg) = (0 : Int32) then
            f_X12_victim_L6 n (.inr (.inl (x0, x1, x2, x3))) σ
          else
            if (KH x0).1 = 10 then
              if (KH (RH x0 13)).1 = 11 ∧ eix x3 (KH (RH x0 13)).2 = true then
                Option.bind (f_X12_isWaiting (σ.1 (RH x0 13) x3.toNatClampNeg) σ) (fun r1 =>
                  if ¬ r1.1 = (0 : Int32) then
                    f_X12_victim_L6 n (.inr (.inl (x0, x1, x2, x3))) r1.2
                  else
                    if (KH x0).1 = 10 then
                      if (KH (RH x0 12)).1 = 11 ∧ eix x3 (KH (RH x0 12)).2 = true then
                        if (KH x0).1 = 10 then
                          Option.bind (f_X12_isIn x0 x1 (r1.2.1 (RH x0 12) x3.toNatClampNeg) r1.2) (fun r2 =>
                            if ¬ r2.1 = (0 : Int32) then
                              f_X12_victim_L6 n (.inr (.inl (x0, x1, x2, x3))) r2.2
                            else
                              f_X12_victim_L6 n (.inr (.inr (.inl (x0, x1, x2, x3, (1 : Int32))))) r2.2
                            )
                        else none
                      else none
                    else none
                  )
              else none
            else none
        else none
      else none
  | n + 1, .inr (.inl (x0, x1, x2, x3)), σ =>
    f_X12_victim_L6 n (.inr (.inr (.inl (x0, x1, x2, x3, (0 : Int32))))) σ
  | n + 1, .inr (.inr (.inl (x0, x1, x2, x3, s0))), σ =>
    if s0 = (0 : Int32) then
      f_X12_victim_L6 n (.inr (.inr (.inr (.inr (.inl (x0, x1, x2, x3)))))) σ
    else
      if x2 = (-1 : Int32) then
        f_X12_victim_L6 n (.inr (.inr (.inr (.inl (x0, x1, x3))))) σ
      else
        if (KH x0).1 = 10 then
          if (KH (RH x0 15)).1 = 11 ∧ eix x3 (KH (RH x0 15)).2 = true then
            if (KH x0).1 = 10 then
              if (KH (RH x0 15)).1 = 11 ∧ eix x2 (KH (RH x0 15)).2 = true then
                if (σ.1 (RH x0 15) x2.toNatClampNeg) ≤ (σ.1 (RH x0 15) x3.toNatClampNeg) then
                  f_X12_victim_L6 n (.inr (.inr (.inr (.inr (.inl (x0, x1, x2, x3)))))) σ
                else
                  f_X12_victim_L6 n (.inr (.inr (.inr (.inl (x0, x1, x3))))) σ
              else none
            else none
          else none
        else none
  | n + 1, .inr (.inr (.inr (.inl (x0, x1, x3)))), σ =>
    f_X12_victim_L6 n (.inr (.inr (.inr (.inr (.inr ((x0, x1, x3, x3))))))) σ
  | n + 1, .inr (.inr (.inr (.inr (.inl (x0, x1, x2, x3))))), σ =>
    f_X12_victim_L6 n (.inr (.inr (.inr (.inr (.inr ((x0, x1, x3, x2))))))) σ
  | n + 1, .inr (.inr (.inr (.inr (.inr ((x0, x1, x3, s0)))))), σ =>
    f_X12_victim_L6 n (.inl (x0, x1, s0, (x3 + (1 : Int32)))) σ
set_option maxHeartbeats 4000000 in
set_option maxRecDepth 20000 in
theorem s_X12_victim_L6 : ∀ (n : Nat), (∀ (x0 : Nat) (x1 : Int32) (x2 : Int32) (x3 : Int32) (σ : eMem), Snd false none 1 m_X12_victim (f_X12_victim_L6 n (.inl (x0, x1, x2, x3)) σ) (cN iI) (6, [(0, .inr (.inr (x0))), (1, .inl (x1)), (2, .inl (x2)), (3, .inl (x3))], [], hp σ, 0, 0)) ∧ (∀ (x0 : Nat) (x1 : Int32) (x2 : Int32) (x3 : Int32) (σ : eMem), Snd false none 1 m_X12_victim (f_X12_victim_L6 n (.inr (.inl (x0, x1, x2, x3))) σ) (cN iI) (54, [(0, .inr (.inr (x0))), (1, .inl (x1)), (2, .inl (x2)), (3, .inl (x3))], [], hp σ, 0, 0)) ∧ (∀ (x0 : Nat) (x1 : Int32) (x2 : Int32) (x3 : Int32) (s0 : Int32) (σ : eMem), Snd false none 1 m_X12_victim (f_X12_victim_L6 n (.inr (.inr (.inl (x0, x1, x2, x3, s0)))) σ) (cN iI) (55, [(0, .inr (.inr (x0))), (1, .inl (x1)), (2, .inl (x2)), (3, .inl (x3))], [.inl (s0)], hp σ, 0, 0)) ∧ (∀ (x0 : Nat) (x1 : Int32) (x3 : Int32) (σ : eMem), Snd false none 1 m_X12_victim (f_X12_victim_L6 n (.inr (.inr (.inr (.inl (x0, x1, x3))))) σ) (cN iI) (82, [(0, .inr (.inr (x0))), (1, .inl (x1)), (3, .inl (x3))], [], hp σ, 0, 0)) ∧ (∀ (x0 : Nat) (x1 : Int32) (x2 : Int32) (x3 : Int32) (σ : eMem), Snd false none 1 m_X12_victim (f_X12_victim_L6 n (.inr (.inr (.inr (.inr (.inl (x0, x1, x2, x3)))))) σ) (cN iI) (86, [(0, .inr (.inr (x0))), (1, .inl (x1)), (2, .inl (x2)), (3, .inl (x3))], [], hp σ, 0, 0)) ∧ (∀ (x0 : Nat) (x1 : Int32) (x3 : Int32) (s0 : Int32) (σ : eMem), Snd false none 1 m_X12_victim (f_X12_victim_L6 n (.inr (.inr (.inr (.inr (.inr ((x0, x1, x3, s0))))))) σ) (cN iI) (87, [(0, .inr (.inr (x0))), (1, .inl (x1)), (3, .inl (x3))], [.inl (s0)], hp σ, 0, 0)) := by
  intro n
  induction n with
  | zero => exact ⟨fun _ _ _ _ _ => T_none, fun _ _ _ _ _ => T_none, fun _ _ _ _ _ _ => T_none, fun _ _ _ _ => T_none, fun _ _ _ _ _ => T_none, fun _ _ _ _ _ => T_none⟩
  | succ n ih =>
    refine ⟨?_, ?_, ?_, ?_, ?_, ?_⟩
    · intro x0 x1 x2 x3 σ
      unfold f_X12_victim_L6
      refine T_go (S' := (12, [(0, .inr (.inr (x0))), (1, .inl (x1)), (2, .inl (x2)), (3, .inl (x3))], [.inl ((((4 : Int32) * x1) + (4 : Int32))), .inl (x3)], hp σ, 0, 0)) 6 rfl ?_
      refine T_icmp_ge 94 rfl rfl (fun _ => ?_) (fun _ => ?_)
      · refine T_go (S' := (95, [(0, .inr (.inr (x0))), (1, .inl (x1)), (2, .inl (x2)), (3, .inl (x3))], [.inl (x2)], hp σ, 0, 0)) 1 rfl ?_
        exact T_ret rfl
      · refine T_go (S' := (16, [(0, .inr (.inr (x0))), (1, .inl (x1)), (2, .inl (x2)), (3, .inl (x3))], [.inr (.inr (x0))], hp σ, 0, 0)) 1 rfl ?_
        refine T_getR rfl (fun _ => ?_)
        refine T_go (S' := (20, [(0, .inr (.inr (x0))), (1, .inl (x1)), (2, .inl (x2)), (3, .inl (x3))], [.inl (x3), .inr (.inr ((RH x0 13)))], hp σ, 0, 0)) 1 rfl ?_
        refine T_iald rfl (fun _ => ?_)
        refine T_if_eq 54 rfl rfl (fun _ => ?_) (fun _ => ?_)
        · refine T_loc (ls' := [(0, .inr (.inr (x0))), (1, .inl (x1)), (2, .inl (x2)), (3, .inl (x3))]) [0, 1, 2, 3] rfl ?_
          exact (ih.2.1) x0 x1 x2 x3 σ
        · refine T_go (S' := (25, [(0, .inr (.inr (x0))), (1, .inl (x1)), (2, .inl (x2)), (3, .inl (x3))], [.inr (.inr (x0))], hp σ, 0, 0)) 1 rfl ?_
          refine T_getR rfl (fun _ => ?_)
          refine T_go (S' := (29, [(0, .inr (.inr (x0))), (1, .inl (x1)), (2, .inl (x2)), (3, .inl (x3))], [.inl (x3), .inr (.inr ((RH x0 13)))], hp σ, 0, 0)) 1 rfl ?_
          refine T_iald rfl (fun _ => ?_)
          refine T_cs (i := iI) (as := [.inl ((σ.1 (RH x0 13) x3.toNatClampNeg))]) (rest := []) (st := [.inl ((σ.1 (RH x0 13) x3.toNatClampNeg))]) rfl (lb rfl) rfl rfl ⟨lb rfl, lb rfl, lb rfl, lb rfl⟩ (fun _ h => Ew_le (lb rfl) (s_X12_isWaiting (σ.1 (RH x0 13) x3.toNatClampNeg) σ _ h)) (fun r1 => ?_)
          show Snd false none _ _ _ (cN iI) (33, [(0, .inr (.inr (x0))), (1, .inl (x1)), (2, .inl (x2)), (3, .inl (x3))], [.inl (r1.1)], hp r1.2, 0, 0)
          refine T_if_ne 54 rfl rfl (fun _ => ?_) (fun _ => ?_)
          · refine T_loc (ls' := [(0, .inr (.inr (x0))), (1, .inl (x1)), (2, .inl (x2)), (3, .inl (x3))]) [0, 1, 2, 3] rfl ?_
            exact (ih.2.1) x0 x1 x2 x3 r1.2
          · refine T_go (S' := (39, [(0, .inr (.inr (x0))), (1, .inl (x1)), (2, .inl (x2)), (3, .inl (x3))], [.inr (.inr (x0)), .inl (x1), .inr (.inr (x0))], hp r1.2, 0, 0)) 3 rfl ?_
            refine T_getR rfl (fun _ => ?_)
            refine T_go (S' := (43, [(0, .inr (.inr (x0))), (1, .inl (x1)), (2, .inl (x2)), (3, .inl (x3))], [.inl (x3), .inr (.inr ((RH x0 12))), .inl (x1), .inr (.inr (x0))], hp r1.2, 0, 0)) 1 rfl ?_
            refine T_iald rfl (fun _ => ?_)
            refine T_cv (i := iI) (as := [.inr (.inr (x0)), .inl (x1), .inl ((r1.2.1 (RH x0 12) x3.toNatClampNeg))]) (rest := []) (st := [.inl ((r1.2.1 (RH x0 12) x3.toNatClampNeg)), .inl (x1), .inr (.inr (x0))]) rfl rfl rfl ⟨lb rfl, lb rfl, lb rfl, lb rfl⟩ (fun _ h => Ew_le (lb rfl) (s_X12_isIn x0 x1 (r1.2.1 (RH x0 12) x3.toNatClampNeg) r1.2 _ h)) (fun _ r2 => ?_)
            show Snd false none _ _ _ (cN iI) (47, [(0, .inr (.inr (x0))), (1, .inl (x1)), (2, .inl (x2)), (3, .inl (x3))], [.inl (r2.1)], hp r2.2, 0, 0)
            refine T_if_ne 54 rfl rfl (fun _ => ?_) (fun _ => ?_)
            · refine T_loc (ls' := [(0, .inr (.inr (x0))), (1, .inl (x1)), (2, .inl (x2)), (3, .inl (x3))]) [0, 1, 2, 3] rfl ?_
              exact (ih.2.1) x0 x1 x2 x3 r2.2
            · refine T_go (S' := (55, [(0, .inr (.inr (x0))), (1, .inl (x1)), (2, .inl (x2)), (3, .inl (x3))], [.inl ((1 : Int32))], hp r2.2, 0, 0)) 2 rfl ?_
              refine T_loc (ls' := [(0, .inr (.inr (x0))), (1, .inl (x1)), (2, .inl (x2)), (3, .inl (x3))]) [0, 1, 2, 3] rfl ?_
              exact (ih.2.2.1) x0 x1 x2 x3 (1 : Int32) r2.2
    · intro x0 x1 x2 x3 σ
      unfold f_X12_victim_L6
      refine T_go (S' := (55, [(0, .inr (.inr (x0))), (1, .inl (x1)), (2, .inl (x2)), (3, .inl (x3))], [.inl ((0 : Int32))], hp σ, 0, 0)) 1 rfl ?_
      refine T_loc (ls' := [(0, .inr (.inr (x0))), (1, .inl (x1)), (2, .inl (x2)), (3, .inl (x3))]) [0, 1, 2, 3] rfl ?_
      exact (ih.2.2.1) x0 x1 x2 x3 (0 : Int32) σ
    · intro x0 x1 x2 x3 s0 σ
      unfold f_X12_victim_L6
      refine T_go (S' := (59, [(4, .inl (s0)), (0, .inr (.inr (x0))), (1, .inl (x1)), (2, .inl (x2)), (3, .inl (x3))], [.inl (s0)], hp σ, 0, 0)) 2 rfl ?_
      refine T_if_eq 86 rfl rfl (fun _ => ?_) (fun _ => ?_)
      · refine T_loc (ls' := [(0, .inr (.inr (x0))), (1, .inl (x1)), (2, .inl (x2)), (3, .inl (x3))]) [1, 2, 3, 4] rfl ?_
        exact (ih.2.2.2.2.1) x0 x1 x2 x3 σ
      · refine T_go (S' := (64, [(4, .inl (s0)), (0, .inr (.inr (x0))), (1, .inl (x1)), (2, .inl (x2)), (3, .inl (x3))], [.inl ((-1 : Int32)), .inl (x2)], hp σ, 0, 0)) 2 rfl ?_
        refine T_icmp_eq 82 rfl rfl (fun _ => ?_) (fun _ => ?_)
        · refine T_loc (ls' := [(0, .inr (.inr (x0))), (1, .inl (x1)), (3, .inl (x3))]) [1, 2, 4] rfl ?_
          exact (ih.2.2.2.1) x0 x1 x3 σ
        · refine T_go (S' := (68, [(4, .inl (s0)), (0, .inr (.inr (x0))), (1, .inl (x1)), (2, .inl (x2)), (3, .inl (x3))], [.inr (.inr (x0))], hp σ, 0, 0)) 1 rfl ?_
          refine T_getR rfl (fun _ => ?_)
          refine T_go (S' := (72, [(4, .inl (s0)), (0, .inr (.inr (x0))), (1, .inl (x1)), (2, .inl (x2)), (3, .inl (x3))], [.inl (x3), .inr (.inr ((RH x0 15)))], hp σ, 0, 0)) 1 rfl ?_
          refine T_iald rfl (fun _ => ?_)
          refine T_go (S' := (74, [(4, .inl (s0)), (0, .inr (.inr (x0))), (1, .inl (x1)), (2, .inl (x2)), (3, .inl (x3))], [.inr (.inr (x0)), .inl ((σ.1 (RH x0 15) x3.toNatClampNeg))], hp σ, 0, 0)) 1 rfl ?_
          refine T_getR rfl (fun _ => ?_)
          refine T_go (S' := (78, [(4, .inl (s0)), (0, .inr (.inr (x0))), (1, .inl (x1)), (2, .inl (x2)), (3, .inl (x3))], [.inl (x2), .inr (.inr ((RH x0 15))), .inl ((σ.1 (RH x0 15) x3.toNatClampNeg))], hp σ, 0, 0)) 1 rfl ?_
          refine T_iald rfl (fun _ => ?_)
          refine T_icmp_ge 86 rfl rfl (fun _ => ?_) (fun _ => ?_)
          · refine T_loc (ls' := [(0, .inr (.inr (x0))), (1, .inl (x1)), (2, .inl (x2)), (3, .inl (x3))]) [1, 2, 3, 4] rfl ?_
            exact (ih.2.2.2.2.1) x0 x1 x2 x3 σ
          · refine T_loc (ls' := [(0, .inr (.inr (x0))), (1, .inl (x1)), (3, .inl (x3))]) [1, 2, 4] rfl ?_
            exact (ih.2.2.2.1) x0 x1 x3 σ
    · intro x0 x1 x3 σ
      unfold f_X12_victim_L6
      refine T_go (S' := (87, [(0, .inr (.inr (x0))), (1, .inl (x1)), (3, .inl (x3))], [.inl (x3)], hp σ, 0, 0)) 2 rfl ?_
      refine T_loc (ls' := [(0, .inr (.inr (x0))), (1, .inl (x1)), (3, .inl (x3))]) [0, 1, 2] rfl ?_
      exact (ih.2.2.2.2.2) x0 x1 x3 x3 σ
    · intro x0 x1 x2 x3 σ
      unfold f_X12_victim_L6
      refine T_go (S' := (87, [(0, .inr (.inr (x0))), (1, .inl (x1)), (2, .inl (x2)), (3, .inl (x3))], [.inl (x2)], hp σ, 0, 0)) 1 rfl ?_
      refine T_loc (ls' := [(0, .inr (.inr (x0))), (1, .inl (x1)), (3, .inl (x3))]) [0, 1, 3] rfl ?_
      exact (ih.2.2.2.2.2) x0 x1 x3 x2 σ
    · intro x0 x1 x3 s0 σ
      unfold f_X12_victim_L6
      refine T_go (S' := (6, [(3, .inl ((x3 + (1 : Int32)))), (2, .inl (s0)), (0, .inr (.inr (x0))), (1, .inl (x1))], [], hp σ, 0, 0)) 3 rfl ?_
      refine T_loc (ls' := [(0, .inr (.inr (x0))), (1, .inl (x1)), (2, .inl (s0)), (3, .inl ((x3 + (1 : Int32))))]) [2, 3, 1, 0] rfl ?_
      exact (ih.1) x0 x1 s0 (x3 + (1 : Int32)) σ
def f_X12_victim (x0 : Nat) (x1 : Int32) (σ : eMem) : Option (Int32 × eMem) :=
  eLet (((4 : Int32) * x1) : Int32) (fun v1 =>
    f_X12_victim_L6 1000000 (.inl (x0, x1, (-1 : Int32), v1)) σ
    )
set_option maxHeartbeats 4000000 in
set_option maxRecDepth 20000 in
theorem s_X12_victim (x0 : Nat) (x1 : Int32) (σ : eMem) : ∀ r, f_X12_victim x0 x1 σ = some r → Ew false 2 152 [.inr (.inr (x0)), .inl (x1)] (hp σ) (cN iI r) := by
  refine T_meth (md := m_X12_victim) (d0 := 1) (cv := (cN iI)) rfl (lb rfl) (lb rfl) ?_
  unfold f_X12_victim
  show Snd false none _ _ _ _ (0, [(0, .inr (.inr (x0))), (1, .inl (x1))], [], hp σ, 0, 0)
  refine T_go (S' := (6, [(3, .inl (((4 : Int32) * x1))), (2, .inl ((-1 : Int32))), (0, .inr (.inr (x0))), (1, .inl (x1))], [], hp σ, 0, 0)) 6 rfl ?_
  refine T_let (Sf := fun v1 => (6, [(3, .inl (v1)), (2, .inl ((-1 : Int32))), (0, .inr (.inr (x0))), (1, .inl (x1))], [], hp σ, 0, 0)) (fun v1 => ?_)
  refine T_loc (ls' := [(0, .inr (.inr (x0))), (1, .inl (x1)), (2, .inl ((-1 : Int32))), (3, .inl (v1))]) [2, 3, 1, 0] rfl ?_
  exact (s_X12_victim_L6 1000000).1 x0 x1 (-1 : Int32) v1 σ
def f_X12_uses (x0 : Nat) (x1 : Int32) (σ : eMem) : Option (Unit × eMem) :=
  if (KH x0).1 = 10 then
    if (KH x0).1 = 10 then eLet ((eup σ.1 x0 18 ((σ.1 x0 18) + (1 : Int32)), σ.2) : eMem) (fun σ1 =>
      if (KH x0).1 = 10 then
        if (KH x0).1 = 10 then
          if (KH (RH x0 15)).1 = 11 ∧ eix x1 (KH (RH x0 15)).2 = true then eLet ((eup σ1.1 (RH x0 15) x1.toNatClampNeg (σ1.1 x0 18), σ1.2) : eMem) (fun σ2 =>
            some ((), σ2)
            ) else none
        else none
      else none
      ) else none
  else none
set_option maxHeartbeats 4000000 in
set_option maxRecDepth 20000 in
theorem s_X12_uses (x0 : Nat) (x1 : Int32) (σ : eMem) : ∀ r, f_X12_uses x0 x1 σ = some r → Ew false 1 153 [.inr (.inr (x0)), .inl (x1)] (hp σ) (cN iU r) := by
  refine T_meth (md := m_X12_uses) (d0 := 0) (cv := (cN iU)) rfl (lb rfl) (lb rfl) ?_
  unfold f_X12_uses
  show Snd false none _ _ _ _ (0, [(0, .inr (.inr (x0))), (1, .inl (x1))], [], hp σ, 0, 0)
  refine T_go (S' := (2, [(0, .inr (.inr (x0))), (1, .inl (x1))], [.inr (.inr (x0)), .inr (.inr (x0))], hp σ, 0, 0)) 2 rfl ?_
  refine T_getI rfl (fun _ => ?_)
  refine T_go (S' := (7, [(0, .inr (.inr (x0))), (1, .inl (x1))], [.inl (((σ.1 x0 18) + (1 : Int32))), .inr (.inr (x0))], hp σ, 0, 0)) 2 rfl ?_
  refine T_putI rfl (fun _ => ?_)
  refine T_let (Sf := fun σ1 => (10, [(0, .inr (.inr (x0))), (1, .inl (x1))], [], hp σ1, 0, 0)) (fun σ1 => ?_)
  refine T_go (S' := (11, [(0, .inr (.inr (x0))), (1, .inl (x1))], [.inr (.inr (x0))], hp σ1, 0, 0)) 1 rfl ?_
  refine T_getR rfl (fun _ => ?_)
  refine T_go (S' := (16, [(0, .inr (.inr (x0))), (1, .inl (x1))], [.inr (.inr (x0)), .inl (x1), .inr (.inr ((RH x0 15)))], hp σ1, 0, 0)) 2 rfl ?_
  refine T_getI rfl (fun _ => ?_)
  refine T_iast rfl (fun _ => ?_)
  refine T_let (Sf := fun σ2 => (20, [(0, .inr (.inr (x0))), (1, .inl (x1))], [], hp σ2, 0, 0)) (fun σ2 => ?_)
  exact T_ret rfl
def f_X12_stateAt_22 (s0 : Int32) (σ : eMem) : Option (Int32 × eMem) :=
  some (s0, σ)
set_option maxHeartbeats 4000000 in
set_option maxRecDepth 20000 in
theorem s_X12_stateAt_22 (s0 : Int32) (σ : eMem) : Snd false none 1 m_X12_stateAt (f_X12_stateAt_22 s0 σ) (cN iI) (22, [], [.inl (s0)], hp σ, 0, 0) := by
  unfold f_X12_stateAt_22
  exact T_ret rfl
def f_X12_stateAt (x0 : Nat) (x1 : Int32) (x2 : Int32) (σ : eMem) : Option (Int32 × eMem) :=
  if (KH x0).1 = 10 then
    Option.bind (f_X12_placeOf x0 x1 x2 σ) (fun r1 =>
      if ¬ r1.1 = (-1 : Int32) then
        if (KH x0).1 = 10 then
          if (KH (RH x0 13)).1 = 11 ∧ eix r1.1 (KH (RH x0 13)).2 = true then
            f_X12_stateAt_22 (r1.2.1 (RH x0 13) r1.1.toNatClampNeg) r1.2
          else none
        else none
      else
        f_X12_stateAt_22 (0 : Int32) r1.2
      )
  else none
set_option maxHeartbeats 4000000 in
set_option maxRecDepth 20000 in
theorem s_X12_stateAt (x0 : Nat) (x1 : Int32) (x2 : Int32) (σ : eMem) : ∀ r, f_X12_stateAt x0 x1 x2 σ = some r → Ew false 2 154 [.inr (.inr (x0)), .inl (x1), .inl (x2)] (hp σ) (cN iI r) := by
  refine T_meth (md := m_X12_stateAt) (d0 := 1) (cv := (cN iI)) rfl (lb rfl) (lb rfl) ?_
  unfold f_X12_stateAt
  show Snd false none _ _ _ _ (0, [(0, .inr (.inr (x0))), (1, .inl (x1)), (2, .inl (x2))], [], hp σ, 0, 0)
  refine T_go (S' := (3, [(0, .inr (.inr (x0))), (1, .inl (x1)), (2, .inl (x2))], [.inl (x2), .inl (x1), .inr (.inr (x0))], hp σ, 0, 0)) 3 rfl ?_
  refine T_cv (i := iI) (as := [.inr (.inr (x0)), .inl (x1), .inl (x2)]) (rest := []) (st := [.inl (x2), .inl (x1), .inr (.inr (x0))]) rfl rfl rfl ⟨lb rfl, lb rfl, lb rfl, lb rfl⟩ (fun _ h => Ew_le (lb rfl) (s_X12_placeOf x0 x1 x2 σ _ h)) (fun _ r1 => ?_)
  show Snd false none _ _ _ (cN iI) (6, [(0, .inr (.inr (x0))), (1, .inl (x1)), (2, .inl (x2))], [.inl (r1.1)], hp r1.2, 0, 0)
  refine T_go (S' := (9, [(3, .inl (r1.1)), (0, .inr (.inr (x0))), (1, .inl (x1)), (2, .inl (x2))], [.inl ((-1 : Int32)), .inl (r1.1)], hp r1.2, 0, 0)) 3 rfl ?_
  refine T_icmp_ne 16 rfl rfl (fun _ => ?_) (fun _ => ?_)
  · refine T_go (S' := (17, [(3, .inl (r1.1)), (0, .inr (.inr (x0))), (1, .inl (x1)), (2, .inl (x2))], [.inr (.inr (x0))], hp r1.2, 0, 0)) 1 rfl ?_
    refine T_getR rfl (fun _ => ?_)
    refine T_go (S' := (21, [(3, .inl (r1.1)), (0, .inr (.inr (x0))), (1, .inl (x1)), (2, .inl (x2))], [.inl (r1.1), .inr (.inr ((RH x0 13)))], hp r1.2, 0, 0)) 1 rfl ?_
    refine T_iald rfl (fun _ => ?_)
    refine T_loc (ls' := []) [] rfl ?_
    exact s_X12_stateAt_22 (r1.2.1 (RH x0 13) r1.1.toNatClampNeg) r1.2
  · refine T_go (S' := (22, [(3, .inl (r1.1)), (0, .inr (.inr (x0))), (1, .inl (x1)), (2, .inl (x2))], [.inl ((0 : Int32))], hp r1.2, 0, 0)) 2 rfl ?_
    refine T_loc (ls' := []) [] rfl ?_
    exact s_X12_stateAt_22 (0 : Int32) r1.2
