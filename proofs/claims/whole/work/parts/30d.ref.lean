/-! what the methods do -/
def f_X12_delivers_127 (x5 : Int32) (σ : eMem) : Option (Int32 × eMem) :=
  some (x5, σ)
set_option maxHeartbeats 4000000 in
set_option maxRecDepth 20000 in
theorem s_X12_delivers_127 (x5 : Int32) (σ : eMem) : Snd false none 6 m_X12_delivers (f_X12_delivers_127 x5 σ) (cN iI) (127, [(5, .inl (x5))], [], hp σ, 0, 0) := by
  unfold f_X12_delivers_127
  refine T_go (S' := (129, [(5, .inl (x5))], [.inl (x5)], hp σ, 0, 0)) 1 rfl ?_
  exact T_ret rfl
def f_X12_delivers (x0 : Nat) (x1 : Int32) (x2 : Int32) (σ : eMem) : Option (Int32 × eMem) :=
  eLet ((((5 : Int32) * x1) + x2) : Int32) (fun v1 =>
    if (KH x0).1 = 10 then
      if (KH x0).1 = 10 then
        if (KH (RH x0 9)).1 = 11 ∧ eix v1 (KH (RH x0 9)).2 = true then
          if (KH (RH x0 11)).1 = 11 ∧ eix (((128 : Int32) * v1) + (σ.1 (RH x0 9) v1.toNatClampNeg)) (KH (RH x0 11)).2 = true then
            eLet ((σ.1 (RH x0 11) (((128 : Int32) * v1) + (σ.1 (RH x0 9) v1.toNatClampNeg)).toNatClampNeg) : Int32) (fun v2 =>
              if (KH x0).1 = 10 then
                if (KH x0).1 = 10 then
                  if (KH (RH x0 9)).1 = 11 ∧ eix v1 (KH (RH x0 9)).2 = true then
                    if ¬ (128 : Int32) = 0 then
                      if (KH (RH x0 9)).1 = 11 ∧ eix v1 (KH (RH x0 9)).2 = true then eLet ((eup σ.1 (RH x0 9) v1.toNatClampNeg (((σ.1 (RH x0 9) v1.toNatClampNeg) + (1 : Int32)) - ((σ.1 (RH x0 9) v1.toNatClampNeg) + (1 : Int32)) / (128 : Int32) * (128 : Int32)), σ.2) : eMem) (fun σ3 =>
                        if (KH x0).1 = 10 then
                          if (KH (RH x0 10)).1 = 11 ∧ eix v1 (KH (RH x0 10)).2 = true then
                            if (KH (RH x0 10)).1 = 11 ∧ eix v1 (KH (RH x0 10)).2 = true then eLet ((eup σ3.1 (RH x0 10) v1.toNatClampNeg ((σ3.1 (RH x0 10) v1.toNatClampNeg) - (1 : Int32)), σ3.2) : eMem) (fun σ4 =>
                              if ¬ (16 : Int32) = 0 then
                                if ¬ (16 : Int32) = 0 then
                                  eLet (((v2 / (16 : Int32)) - (v2 / (16 : Int32)) / (16 : Int32) * (16 : Int32)) : Int32) (fun v5 =>
                                    if ¬ x2 = (4 : Int32) then
                                      if ¬ (16 : Int32) = 0 then
                                        if ¬ (256 : Int32) = 0 then
                                          if ¬ (8 : Int32) = 0 then
                                            if ¬ (2048 : Int32) = 0 then
                                              if (KH x0).1 = 10 then
                                                Option.bind (f_X12_atCore x0 x2 (v2 - v2 / (16 : Int32) * (16 : Int32)) v5 ((v2 / (256 : Int32)) - (v2 / (256 : Int32)) / (8 : Int32) * (8 : Int32)) (v2 / (2048 : Int32)) σ4) (fun r6 =>
                                                  f_X12_delivers_127 v5 r6.2
                                                  )
                                              else none
                                            else none
                                          else none
                                        else none
                                      else none
                                    else
                                      if ¬ (16 : Int32) = 0 then
                                        if ¬ (256 : Int32) = 0 then
                                          if ¬ (8 : Int32) = 0 then
                                            if ¬ (2048 : Int32) = 0 then
                                              if (KH x0).1 = 10 then
                                                Option.bind (f_X12_atHome x0 x1 (v2 - v2 / (16 : Int32) * (16 : Int32)) v5 ((v2 / (256 : Int32)) - (v2 / (256 : Int32)) / (8 : Int32) * (8 : Int32)) (v2 / (2048 : Int32)) v2 σ4) (fun r7 =>
                                                  f_X12_delivers_127 v5 r7.2
                                                  )
                                              else none
                                            else none
                                          else none
                                        else none
                                      else none
                                    )
                                else none
                              else none
                              ) else none
                          else none
                        else none
                        ) else none
                    else none
                  else none
                else none
              else none
              )
          else none
        else none
      else none
    else none
    )
set_option maxHeartbeats 4000000 in
set_option maxRecDepth 20000 in
theorem s_X12_delivers (x0 : Nat) (x1 : Int32) (x2 : Int32) (σ : eMem) : ∀ r, f_X12_delivers x0 x1 x2 σ = some r → Ew false 7 161 [.inr (.inr (x0)), .inl (x1), .inl (x2)] (hp σ) (cN iI r) := by
  refine T_meth (md := m_X12_delivers) (d0 := 6) (cv := (cN iI)) rfl (lb rfl) (lb rfl) ?_
  unfold f_X12_delivers
  show Snd false none _ _ _ _ (0, [(0, .inr (.inr (x0))), (1, .inl (x1)), (2, .inl (x2))], [], hp σ, 0, 0)
  refine T_go (S' := (6, [(3, .inl ((((5 : Int32) * x1) + x2))), (0, .inr (.inr (x0))), (1, .inl (x1)), (2, .inl (x2))], [], hp σ, 0, 0)) 6 rfl ?_
  refine T_let (Sf := fun v1 => (6, [(3, .inl (v1)), (0, .inr (.inr (x0))), (1, .inl (x1)), (2, .inl (x2))], [], hp σ, 0, 0)) (fun v1 => ?_)
  refine T_go (S' := (7, [(3, .inl (v1)), (0, .inr (.inr (x0))), (1, .inl (x1)), (2, .inl (x2))], [.inr (.inr (x0))], hp σ, 0, 0)) 1 rfl ?_
  refine T_getR rfl (fun _ => ?_)
  refine T_go (S' := (16, [(3, .inl (v1)), (0, .inr (.inr (x0))), (1, .inl (x1)), (2, .inl (x2))], [.inr (.inr (x0)), .inl (((128 : Int32) * v1)), .inr (.inr ((RH x0 11)))], hp σ, 0, 0)) 4 rfl ?_
  refine T_getR rfl (fun _ => ?_)
  refine T_go (S' := (20, [(3, .inl (v1)), (0, .inr (.inr (x0))), (1, .inl (x1)), (2, .inl (x2))], [.inl (v1), .inr (.inr ((RH x0 9))), .inl (((128 : Int32) * v1)), .inr (.inr ((RH x0 11)))], hp σ, 0, 0)) 1 rfl ?_
  refine T_iald rfl (fun _ => ?_)
  refine T_go (S' := (22, [(3, .inl (v1)), (0, .inr (.inr (x0))), (1, .inl (x1)), (2, .inl (x2))], [.inl ((((128 : Int32) * v1) + (σ.1 (RH x0 9) v1.toNatClampNeg))), .inr (.inr ((RH x0 11)))], hp σ, 0, 0)) 1 rfl ?_
  refine T_iald rfl (fun _ => ?_)
  refine T_go (S' := (25, [(4, .inl ((σ.1 (RH x0 11) (((128 : Int32) * v1) + (σ.1 (RH x0 9) v1.toNatClampNeg)).toNatClampNeg))), (3, .inl (v1)), (0, .inr (.inr (x0))), (1, .inl (x1)), (2, .inl (x2))], [], hp σ, 0, 0)) 1 rfl ?_
  refine T_let (Sf := fun v2 => (25, [(4, .inl (v2)), (3, .inl (v1)), (0, .inr (.inr (x0))), (1, .inl (x1)), (2, .inl (x2))], [], hp σ, 0, 0)) (fun v2 => ?_)
  refine T_go (S' := (26, [(4, .inl (v2)), (3, .inl (v1)), (0, .inr (.inr (x0))), (1, .inl (x1)), (2, .inl (x2))], [.inr (.inr (x0))], hp σ, 0, 0)) 1 rfl ?_
  refine T_getR rfl (fun _ => ?_)
  refine T_go (S' := (31, [(4, .inl (v2)), (3, .inl (v1)), (0, .inr (.inr (x0))), (1, .inl (x1)), (2, .inl (x2))], [.inr (.inr (x0)), .inl (v1), .inr (.inr ((RH x0 9)))], hp σ, 0, 0)) 2 rfl ?_
  refine T_getR rfl (fun _ => ?_)
  refine T_go (S' := (35, [(4, .inl (v2)), (3, .inl (v1)), (0, .inr (.inr (x0))), (1, .inl (x1)), (2, .inl (x2))], [.inl (v1), .inr (.inr ((RH x0 9))), .inl (v1), .inr (.inr ((RH x0 9)))], hp σ, 0, 0)) 1 rfl ?_
  refine T_iald rfl (fun _ => ?_)
  refine T_go (S' := (41, [(4, .inl (v2)), (3, .inl (v1)), (0, .inr (.inr (x0))), (1, .inl (x1)), (2, .inl (x2))], [.inl ((128 : Int32)), .inl (((σ.1 (RH x0 9) v1.toNatClampNeg) + (1 : Int32))), .inl (v1), .inr (.inr ((RH x0 9)))], hp σ, 0, 0)) 3 rfl ?_
  refine T_irem rfl (fun _ => ?_)
  refine T_iast rfl (fun _ => ?_)
  refine T_let (Sf := fun σ3 => (43, [(4, .inl (v2)), (3, .inl (v1)), (0, .inr (.inr (x0))), (1, .inl (x1)), (2, .inl (x2))], [], hp σ3, 0, 0)) (fun σ3 => ?_)
  refine T_go (S' := (44, [(4, .inl (v2)), (3, .inl (v1)), (0, .inr (.inr (x0))), (1, .inl (x1)), (2, .inl (x2))], [.inr (.inr (x0))], hp σ3, 0, 0)) 1 rfl ?_
  refine T_getR rfl (fun _ => ?_)
  refine T_go (S' := (49, [(4, .inl (v2)), (3, .inl (v1)), (0, .inr (.inr (x0))), (1, .inl (x1)), (2, .inl (x2))], [.inl (v1), .inr (.inr ((RH x0 10))), .inl (v1), .inr (.inr ((RH x0 10)))], hp σ3, 0, 0)) 2 rfl ?_
  refine T_iald rfl (fun _ => ?_)
  refine T_go (S' := (52, [(4, .inl (v2)), (3, .inl (v1)), (0, .inr (.inr (x0))), (1, .inl (x1)), (2, .inl (x2))], [.inl (((σ3.1 (RH x0 10) v1.toNatClampNeg) - (1 : Int32))), .inl (v1), .inr (.inr ((RH x0 10)))], hp σ3, 0, 0)) 2 rfl ?_
  refine T_iast rfl (fun _ => ?_)
  refine T_let (Sf := fun σ4 => (53, [(4, .inl (v2)), (3, .inl (v1)), (0, .inr (.inr (x0))), (1, .inl (x1)), (2, .inl (x2))], [], hp σ4, 0, 0)) (fun σ4 => ?_)
  refine T_go (S' := (57, [(4, .inl (v2)), (3, .inl (v1)), (0, .inr (.inr (x0))), (1, .inl (x1)), (2, .inl (x2))], [.inl ((16 : Int32)), .inl (v2)], hp σ4, 0, 0)) 2 rfl ?_
  refine T_idiv rfl (fun _ => ?_)
  refine T_go (S' := (60, [(4, .inl (v2)), (3, .inl (v1)), (0, .inr (.inr (x0))), (1, .inl (x1)), (2, .inl (x2))], [.inl ((16 : Int32)), .inl ((v2 / (16 : Int32)))], hp σ4, 0, 0)) 1 rfl ?_
  refine T_irem rfl (fun _ => ?_)
  refine T_go (S' := (63, [(5, .inl (((v2 / (16 : Int32)) - (v2 / (16 : Int32)) / (16 : Int32) * (16 : Int32)))), (4, .inl (v2)), (3, .inl (v1)), (0, .inr (.inr (x0))), (1, .inl (x1)), (2, .inl (x2))], [], hp σ4, 0, 0)) 1 rfl ?_
  refine T_let (Sf := fun v5 => (63, [(5, .inl (v5)), (4, .inl (v2)), (3, .inl (v1)), (0, .inr (.inr (x0))), (1, .inl (x1)), (2, .inl (x2))], [], hp σ4, 0, 0)) (fun v5 => ?_)
  refine T_go (S' := (65, [(5, .inl (v5)), (4, .inl (v2)), (3, .inl (v1)), (0, .inr (.inr (x0))), (1, .inl (x1)), (2, .inl (x2))], [.inl ((4 : Int32)), .inl (x2)], hp σ4, 0, 0)) 2 rfl ?_
  refine T_icmp_ne 100 rfl rfl (fun _ => ?_) (fun _ => ?_)
  · refine T_go (S' := (106, [(5, .inl (v5)), (4, .inl (v2)), (3, .inl (v1)), (0, .inr (.inr (x0))), (1, .inl (x1)), (2, .inl (x2))], [.inl ((16 : Int32)), .inl (v2), .inl (x2), .inr (.inr (x0))], hp σ4, 0, 0)) 4 rfl ?_
    refine T_irem rfl (fun _ => ?_)
    refine T_go (S' := (114, [(5, .inl (v5)), (4, .inl (v2)), (3, .inl (v1)), (0, .inr (.inr (x0))), (1, .inl (x1)), (2, .inl (x2))], [.inl ((256 : Int32)), .inl (v2), .inl (v5), .inl ((v2 - v2 / (16 : Int32) * (16 : Int32))), .inl (x2), .inr (.inr (x0))], hp σ4, 0, 0)) 3 rfl ?_
    refine T_idiv rfl (fun _ => ?_)
    refine T_go (S' := (117, [(5, .inl (v5)), (4, .inl (v2)), (3, .inl (v1)), (0, .inr (.inr (x0))), (1, .inl (x1)), (2, .inl (x2))], [.inl ((8 : Int32)), .inl ((v2 / (256 : Int32))), .inl (v5), .inl ((v2 - v2 / (16 : Int32) * (16 : Int32))), .inl (x2), .inr (.inr (x0))], hp σ4, 0, 0)) 1 rfl ?_
    refine T_irem rfl (fun _ => ?_)
    refine T_go (S' := (123, [(5, .inl (v5)), (4, .inl (v2)), (3, .inl (v1)), (0, .inr (.inr (x0))), (1, .inl (x1)), (2, .inl (x2))], [.inl ((2048 : Int32)), .inl (v2), .inl (((v2 / (256 : Int32)) - (v2 / (256 : Int32)) / (8 : Int32) * (8 : Int32))), .inl (v5), .inl ((v2 - v2 / (16 : Int32) * (16 : Int32))), .inl (x2), .inr (.inr (x0))], hp σ4, 0, 0)) 2 rfl ?_
    refine T_idiv rfl (fun _ => ?_)
    refine T_cv (i := iU) (as := [.inr (.inr (x0)), .inl (x2), .inl ((v2 - v2 / (16 : Int32) * (16 : Int32))), .inl (v5), .inl (((v2 / (256 : Int32)) - (v2 / (256 : Int32)) / (8 : Int32) * (8 : Int32))), .inl ((v2 / (2048 : Int32)))]) (rest := []) (st := [.inl ((v2 / (2048 : Int32))), .inl (((v2 / (256 : Int32)) - (v2 / (256 : Int32)) / (8 : Int32) * (8 : Int32))), .inl (v5), .inl ((v2 - v2 / (16 : Int32) * (16 : Int32))), .inl (x2), .inr (.inr (x0))]) rfl rfl rfl ⟨lb rfl, lb rfl, lb rfl, lb rfl⟩ (fun _ h => Ew_le (lb rfl) (s_X12_atCore x0 x2 (v2 - v2 / (16 : Int32) * (16 : Int32)) v5 ((v2 / (256 : Int32)) - (v2 / (256 : Int32)) / (8 : Int32) * (8 : Int32)) (v2 / (2048 : Int32)) σ4 _ h)) (fun _ r6 => ?_)
    show Snd false none _ _ _ (cN iI) (127, [(5, .inl (v5)), (4, .inl (v2)), (3, .inl (v1)), (0, .inr (.inr (x0))), (1, .inl (x1)), (2, .inl (x2))], [], hp r6.2, 0, 0)
    refine T_loc (ls' := [(5, .inl (v5))]) [0] rfl ?_
    exact s_X12_delivers_127 v5 r6.2
  · refine T_go (S' := (74, [(5, .inl (v5)), (4, .inl (v2)), (3, .inl (v1)), (0, .inr (.inr (x0))), (1, .inl (x1)), (2, .inl (x2))], [.inl ((16 : Int32)), .inl (v2), .inl (x1), .inr (.inr (x0))], hp σ4, 0, 0)) 4 rfl ?_
    refine T_irem rfl (fun _ => ?_)
    refine T_go (S' := (82, [(5, .inl (v5)), (4, .inl (v2)), (3, .inl (v1)), (0, .inr (.inr (x0))), (1, .inl (x1)), (2, .inl (x2))], [.inl ((256 : Int32)), .inl (v2), .inl (v5), .inl ((v2 - v2 / (16 : Int32) * (16 : Int32))), .inl (x1), .inr (.inr (x0))], hp σ4, 0, 0)) 3 rfl ?_
    refine T_idiv rfl (fun _ => ?_)
    refine T_go (S' := (85, [(5, .inl (v5)), (4, .inl (v2)), (3, .inl (v1)), (0, .inr (.inr (x0))), (1, .inl (x1)), (2, .inl (x2))], [.inl ((8 : Int32)), .inl ((v2 / (256 : Int32))), .inl (v5), .inl ((v2 - v2 / (16 : Int32) * (16 : Int32))), .inl (x1), .inr (.inr (x0))], hp σ4, 0, 0)) 1 rfl ?_
    refine T_irem rfl (fun _ => ?_)
    refine T_go (S' := (91, [(5, .inl (v5)), (4, .inl (v2)), (3, .inl (v1)), (0, .inr (.inr (x0))), (1, .inl (x1)), (2, .inl (x2))], [.inl ((2048 : Int32)), .inl (v2), .inl (((v2 / (256 : Int32)) - (v2 / (256 : Int32)) / (8 : Int32) * (8 : Int32))), .inl (v5), .inl ((v2 - v2 / (16 : Int32) * (16 : Int32))), .inl (x1), .inr (.inr (x0))], hp σ4, 0, 0)) 2 rfl ?_
    refine T_idiv rfl (fun _ => ?_)
    refine T_go (S' := (94, [(5, .inl (v5)), (4, .inl (v2)), (3, .inl (v1)), (0, .inr (.inr (x0))), (1, .inl (x1)), (2, .inl (x2))], [.inl (v2), .inl ((v2 / (2048 : Int32))), .inl (((v2 / (256 : Int32)) - (v2 / (256 : Int32)) / (8 : Int32) * (8 : Int32))), .inl (v5), .inl ((v2 - v2 / (16 : Int32) * (16 : Int32))), .inl (x1), .inr (.inr (x0))], hp σ4, 0, 0)) 1 rfl ?_
    refine T_cv (i := iU) (as := [.inr (.inr (x0)), .inl (x1), .inl ((v2 - v2 / (16 : Int32) * (16 : Int32))), .inl (v5), .inl (((v2 / (256 : Int32)) - (v2 / (256 : Int32)) / (8 : Int32) * (8 : Int32))), .inl ((v2 / (2048 : Int32))), .inl (v2)]) (rest := []) (st := [.inl (v2), .inl ((v2 / (2048 : Int32))), .inl (((v2 / (256 : Int32)) - (v2 / (256 : Int32)) / (8 : Int32) * (8 : Int32))), .inl (v5), .inl ((v2 - v2 / (16 : Int32) * (16 : Int32))), .inl (x1), .inr (.inr (x0))]) rfl rfl rfl ⟨lb rfl, lb rfl, lb rfl, lb rfl⟩ (fun _ h => Ew_le (lb rfl) (s_X12_atHome x0 x1 (v2 - v2 / (16 : Int32) * (16 : Int32)) v5 ((v2 / (256 : Int32)) - (v2 / (256 : Int32)) / (8 : Int32) * (8 : Int32)) (v2 / (2048 : Int32)) v2 σ4 _ h)) (fun _ r7 => ?_)
    show Snd false none _ _ _ (cN iI) (97, [(5, .inl (v5)), (4, .inl (v2)), (3, .inl (v1)), (0, .inr (.inr (x0))), (1, .inl (x1)), (2, .inl (x2))], [], hp r7.2, 0, 0)
    refine T_go (S' := (127, [(5, .inl (v5)), (4, .inl (v2)), (3, .inl (v1)), (0, .inr (.inr (x0))), (1, .inl (x1)), (2, .inl (x2))], [], hp r7.2, 0, 0)) 1 rfl ?_
    refine T_loc (ls' := [(5, .inl (v5))]) [0] rfl ?_
    exact s_X12_delivers_127 v5 r7.2
def f_X12_asksLine_20 (s0 : Nat) (s1 : Int32) (σ : eMem) : Option (Int32 × eMem) :=
  if (KH s0).1 = 10 then
    Option.bind (f_X12_asks s0 s1 σ) (fun r1 =>
      if eB r1.1 = true then some (r1.1, r1.2) else none
      )
  else none
set_option maxHeartbeats 4000000 in
set_option maxRecDepth 20000 in
theorem s_X12_asksLine_20 (s0 : Nat) (s1 : Int32) (σ : eMem) : Snd false none 1 m_X12_asksLine (f_X12_asksLine_20 s0 s1 σ) (cN iI) (20, [], [.inl (s1), .inr (.inr (s0))], hp σ, 0, 0) := by
  unfold f_X12_asksLine_20
  refine T_cv (i := iI) (as := [.inr (.inr (s0)), .inl (s1)]) (rest := []) (st := [.inl (s1), .inr (.inr (s0))]) rfl rfl rfl ⟨lb rfl, lb rfl, lb rfl, lb rfl⟩ (fun _ h => Ew_le (lb rfl) (s_X12_asks s0 s1 σ _ h)) (fun _ r1 => ?_)
  show Snd false none _ _ _ (cN iI) (23, [], [.inl (r1.1)], hp r1.2, 0, 0)
  exact T_chkr rfl
def f_X12_asksLine_19 (s0 : Nat) (σ : eMem) : Option (Int32 × eMem) :=
  f_X12_asksLine_20 s0 (0 : Int32) σ
set_option maxHeartbeats 4000000 in
set_option maxRecDepth 20000 in
theorem s_X12_asksLine_19 (s0 : Nat) (σ : eMem) : Snd false none 1 m_X12_asksLine (f_X12_asksLine_19 s0 σ) (cN iI) (19, [], [.inr (.inr (s0))], hp σ, 0, 0) := by
  unfold f_X12_asksLine_19
  refine T_go (S' := (20, [], [.inl ((0 : Int32)), .inr (.inr (s0))], hp σ, 0, 0)) 1 rfl ?_
  refine T_loc (ls' := []) [] rfl ?_
  exact s_X12_asksLine_20 s0 (0 : Int32) σ
def f_X12_asksLine (x0 : Nat) (x1 : Int32) (x2 : Int32) (σ : eMem) : Option (Int32 × eMem) :=
  Option.bind (f_X12_isCore x1 σ) (fun r1 =>
    if r1.1 = (0 : Int32) then
      f_X12_asksLine_19 x0 r1.2
    else
      Option.bind (f_X12_isLine x2 r1.2) (fun r2 =>
        if r2.1 = (0 : Int32) then
          f_X12_asksLine_19 x0 r2.2
        else
          f_X12_asksLine_20 x0 (1 : Int32) r2.2
        )
    )
set_option maxHeartbeats 4000000 in
set_option maxRecDepth 20000 in
theorem s_X12_asksLine (x0 : Nat) (x1 : Int32) (x2 : Int32) (σ : eMem) : ∀ r, f_X12_asksLine x0 x1 x2 σ = some r → Ew false 2 162 [.inr (.inr (x0)), .inl (x1), .inl (x2)] (hp σ) (cN iI r) := by
  refine T_meth (md := m_X12_asksLine) (d0 := 1) (cv := (cN iI)) rfl (lb rfl) (lb rfl) ?_
  unfold f_X12_asksLine
  show Snd false none _ _ _ _ (0, [(0, .inr (.inr (x0))), (1, .inl (x1)), (2, .inl (x2))], [], hp σ, 0, 0)
  refine T_go (S' := (2, [(0, .inr (.inr (x0))), (1, .inl (x1)), (2, .inl (x2))], [.inl (x1), .inr (.inr (x0))], hp σ, 0, 0)) 2 rfl ?_
  refine T_cs (i := iI) (as := [.inl (x1)]) (rest := [.inr (.inr (x0))]) (st := [.inl (x1), .inr (.inr (x0))]) rfl (lb rfl) rfl rfl ⟨lb rfl, lb rfl, lb rfl, lb rfl⟩ (fun _ h => Ew_le (lb rfl) (s_X12_isCore x1 σ _ h)) (fun r1 => ?_)
  show Snd false none _ _ _ (cN iI) (5, [(0, .inr (.inr (x0))), (1, .inl (x1)), (2, .inl (x2))], [.inl (r1.1), .inr (.inr (x0))], hp r1.2, 0, 0)
  refine T_if_eq 19 rfl rfl (fun _ => ?_) (fun _ => ?_)
  · refine T_loc (ls' := []) [] rfl ?_
    exact s_X12_asksLine_19 x0 r1.2
  · refine T_go (S' := (9, [(0, .inr (.inr (x0))), (1, .inl (x1)), (2, .inl (x2))], [.inl (x2), .inr (.inr (x0))], hp r1.2, 0, 0)) 1 rfl ?_
    refine T_cs (i := iI) (as := [.inl (x2)]) (rest := [.inr (.inr (x0))]) (st := [.inl (x2), .inr (.inr (x0))]) rfl (lb rfl) rfl rfl ⟨lb rfl, lb rfl, lb rfl, lb rfl⟩ (fun _ h => Ew_le (lb rfl) (s_X12_isLine x2 r1.2 _ h)) (fun r2 => ?_)
    show Snd false none _ _ _ (cN iI) (12, [(0, .inr (.inr (x0))), (1, .inl (x1)), (2, .inl (x2))], [.inl (r2.1), .inr (.inr (x0))], hp r2.2, 0, 0)
    refine T_if_eq 19 rfl rfl (fun _ => ?_) (fun _ => ?_)
    · refine T_loc (ls' := []) [] rfl ?_
      exact s_X12_asksLine_19 x0 r2.2
    · refine T_go (S' := (20, [(0, .inr (.inr (x0))), (1, .inl (x1)), (2, .inl (x2))], [.inl ((1 : Int32)), .inr (.inr (x0))], hp r2.2, 0, 0)) 2 rfl ?_
      refine T_loc (ls' := []) [] rfl ?_
      exact s_X12_asksLine_20 x0 (1 : Int32) r2.2
def f_X12_isFull_43 (s0 : Int32) (σ : eMem) : Option (Int32 × eMem) :=
  if eB s0 = true then some (s0, σ) else none
set_option maxHeartbeats 4000000 in
set_option maxRecDepth 20000 in
theorem s_X12_isFull_43 (s0 : Int32) (σ : eMem) : Snd false none 1 m_X12_isFull (f_X12_isFull_43 s0 σ) (cN iI) (43, [], [.inl (s0)], hp σ, 0, 0) := by
  unfold f_X12_isFull_43
  exact T_chkr rfl
def f_X12_isFull_42  (σ : eMem) : Option (Int32 × eMem) :=
  f_X12_isFull_43 (0 : Int32) σ
set_option maxHeartbeats 4000000 in
set_option maxRecDepth 20000 in
theorem s_X12_isFull_42  (σ : eMem) : Snd false none 1 m_X12_isFull (f_X12_isFull_42 σ) (cN iI) (42, [], [], hp σ, 0, 0) := by
  unfold f_X12_isFull_42
  refine T_go (S' := (43, [], [.inl ((0 : Int32))], hp σ, 0, 0)) 1 rfl ?_
  refine T_loc (ls' := []) [] rfl ?_
  exact s_X12_isFull_43 (0 : Int32) σ
def f_X12_isFull (x0 : Nat) (x1 : Int32) (x2 : Int32) (σ : eMem) : Option (Int32 × eMem) :=
  if (KH x0).1 = 10 then
    if (KH (RH x0 23)).1 = 13 ∧ eix x1 (KH (RH x0 23)).2 = true then
      if (σ.1 (RH x0 23) x1.toNatClampNeg) = (0 : Int32) then
        f_X12_isFull_42  σ
      else
        if (KH x0).1 = 10 then
          Option.bind (f_X12_isIn x0 x1 x2 σ) (fun r1 =>
            if ¬ r1.1 = (0 : Int32) then
              f_X12_isFull_42  r1.2
            else
              if (KH x0).1 = 10 then
                if (KH (RH x0 26)).1 = 11 ∧ eix x1 (KH (RH x0 26)).2 = true then
                  if (KH x0).1 = 10 then
                    if (KH (RH x0 27)).1 = 11 ∧ eix x1 (KH (RH x0 27)).2 = true then
                      Option.bind (f_X12_bits ((r1.2.1 (RH x0 26) x1.toNatClampNeg) ||| (r1.2.1 (RH x0 27) x1.toNatClampNeg)) r1.2) (fun r2 =>
                        if ¬ r2.1 = (4 : Int32) then
                          f_X12_isFull_42  r2.2
                        else
                          f_X12_isFull_43 (1 : Int32) r2.2
                        )
                    else none
                  else none
                else none
              else none
            )
        else none
    else none
  else none
set_option maxHeartbeats 4000000 in
set_option maxRecDepth 20000 in
theorem s_X12_isFull (x0 : Nat) (x1 : Int32) (x2 : Int32) (σ : eMem) : ∀ r, f_X12_isFull x0 x1 x2 σ = some r → Ew false 2 163 [.inr (.inr (x0)), .inl (x1), .inl (x2)] (hp σ) (cN iI r) := by
  refine T_meth (md := m_X12_isFull) (d0 := 1) (cv := (cN iI)) rfl (lb rfl) (lb rfl) ?_
  unfold f_X12_isFull
  show Snd false none _ _ _ _ (0, [(0, .inr (.inr (x0))), (1, .inl (x1)), (2, .inl (x2))], [], hp σ, 0, 0)
  refine T_go (S' := (1, [(0, .inr (.inr (x0))), (1, .inl (x1)), (2, .inl (x2))], [.inr (.inr (x0))], hp σ, 0, 0)) 1 rfl ?_
  refine T_getR rfl (fun _ => ?_)
  refine T_go (S' := (5, [(0, .inr (.inr (x0))), (1, .inl (x1)), (2, .inl (x2))], [.inl (x1), .inr (.inr ((RH x0 23)))], hp σ, 0, 0)) 1 rfl ?_
  refine T_bald rfl (fun _ => ?_)
  refine T_if_eq 42 rfl rfl (fun _ => ?_) (fun _ => ?_)
  · refine T_loc (ls' := []) [] rfl ?_
    exact s_X12_isFull_42  σ
  · refine T_go (S' := (12, [(0, .inr (.inr (x0))), (1, .inl (x1)), (2, .inl (x2))], [.inl (x2), .inl (x1), .inr (.inr (x0))], hp σ, 0, 0)) 3 rfl ?_
    refine T_cv (i := iI) (as := [.inr (.inr (x0)), .inl (x1), .inl (x2)]) (rest := []) (st := [.inl (x2), .inl (x1), .inr (.inr (x0))]) rfl rfl rfl ⟨lb rfl, lb rfl, lb rfl, lb rfl⟩ (fun _ h => Ew_le (lb rfl) (s_X12_isIn x0 x1 x2 σ _ h)) (fun _ r1 => ?_)
    show Snd false none _ _ _ (cN iI) (15, [(0, .inr (.inr (x0))), (1, .inl (x1)), (2, .inl (x2))], [.inl (r1.1)], hp r1.2, 0, 0)
    refine T_if_ne 42 rfl rfl (fun _ => ?_) (fun _ => ?_)
    · refine T_loc (ls' := []) [] rfl ?_
      exact s_X12_isFull_42  r1.2
    · refine T_go (S' := (19, [(0, .inr (.inr (x0))), (1, .inl (x1)), (2, .inl (x2))], [.inr (.inr (x0))], hp r1.2, 0, 0)) 1 rfl ?_
      refine T_getR rfl (fun _ => ?_)
      refine T_go (S' := (23, [(0, .inr (.inr (x0))), (1, .inl (x1)), (2, .inl (x2))], [.inl (x1), .inr (.inr ((RH x0 26)))], hp r1.2, 0, 0)) 1 rfl ?_
      refine T_iald rfl (fun _ => ?_)
      refine T_go (S' := (25, [(0, .inr (.inr (x0))), (1, .inl (x1)), (2, .inl (x2))], [.inr (.inr (x0)), .inl ((r1.2.1 (RH x0 26) x1.toNatClampNeg))], hp r1.2, 0, 0)) 1 rfl ?_
      refine T_getR rfl (fun _ => ?_)
      refine T_go (S' := (29, [(0, .inr (.inr (x0))), (1, .inl (x1)), (2, .inl (x2))], [.inl (x1), .inr (.inr ((RH x0 27))), .inl ((r1.2.1 (RH x0 26) x1.toNatClampNeg))], hp r1.2, 0, 0)) 1 rfl ?_
      refine T_iald rfl (fun _ => ?_)
      refine T_go (S' := (31, [(0, .inr (.inr (x0))), (1, .inl (x1)), (2, .inl (x2))], [.inl (((r1.2.1 (RH x0 26) x1.toNatClampNeg) ||| (r1.2.1 (RH x0 27) x1.toNatClampNeg)))], hp r1.2, 0, 0)) 1 rfl ?_
      refine T_cs (i := iI) (as := [.inl (((r1.2.1 (RH x0 26) x1.toNatClampNeg) ||| (r1.2.1 (RH x0 27) x1.toNatClampNeg)))]) (rest := []) (st := [.inl (((r1.2.1 (RH x0 26) x1.toNatClampNeg) ||| (r1.2.1 (RH x0 27) x1.toNatClampNeg)))]) rfl (lb rfl) rfl rfl ⟨lb rfl, lb rfl, lb rfl, lb rfl⟩ (fun _ h => Ew_le (lb rfl) (s_X12_bits ((r1.2.1 (RH x0 26) x1.toNatClampNeg) ||| (r1.2.1 (RH x0 27) x1.toNatClampNeg)) r1.2 _ h)) (fun r2 => ?_)
      show Snd false none _ _ _ (cN iI) (34, [(0, .inr (.inr (x0))), (1, .inl (x1)), (2, .inl (x2))], [.inl (r2.1)], hp r2.2, 0, 0)
      refine T_go (S' := (35, [(0, .inr (.inr (x0))), (1, .inl (x1)), (2, .inl (x2))], [.inl ((4 : Int32)), .inl (r2.1)], hp r2.2, 0, 0)) 1 rfl ?_
      refine T_icmp_ne 42 rfl rfl (fun _ => ?_) (fun _ => ?_)
      · refine T_loc (ls' := []) [] rfl ?_
        exact s_X12_isFull_42  r2.2
      · refine T_go (S' := (43, [(0, .inr (.inr (x0))), (1, .inl (x1)), (2, .inl (x2))], [.inl ((1 : Int32))], hp r2.2, 0, 0)) 2 rfl ?_
        refine T_loc (ls' := []) [] rfl ?_
        exact s_X12_isFull_43 (1 : Int32) r2.2
def f_X12_bufferedAt_L5 : Nat → (Nat × Int32 × Int32 × Int32 × Int32 ⊕ (Nat × Int32 × Int32 × Int32 × Int32)) → eMem → Option (Int32 × eMem)
  | 0, _, _ => none
  | n + 1, .inl (x0, x1, x2, x3, x4), σ =>
    if (KH x0).1 = 10 then
      if (KH (RH x0 20)).1 = 11 ∧ eix x1 (KH (RH x0 20)).2 = true then
        if (σ.1 (RH x0 20) x1.toNatClampNeg) ≤ x4 then
          some (x3, σ)
        else
          if (KH x0).1 = 10 then
            if (KH (RH x0 21)).1 = 11 ∧ eix (((4 : Int32) * x1) + x4) (KH (RH x0 21)).2 = true then
              if ¬ (σ.1 (RH x0 21) (((4 : Int32) * x1) + x4).toNatClampNeg) = x2 then
                f_X12_bufferedAt_L5 n (.inr ((x0, x1, x2, x4, x3))) σ
              else
                if (KH x0).1 = 10 then
                  if (KH (RH x0 22)).1 = 11 ∧ eix (((4 : Int32) * x1) + x4) (KH (RH x0 22)).2 = true then
                    f_X12_bufferedAt_L5 n (.inr ((x0, x1, x2, x4, (σ.1 (RH x0 22) (((4 : Int32) * x1) + x4).toNatClampNeg)))) σ
                  else none
                else none
            else none
          else none
      else none
    else none
  | n + 1, .inr ((x0, x1, x2, x4, s0)), σ =>
    f_X12_bufferedAt_L5 n (.inl (x0, x1, x2, s0, (x4 + (1 : Int32)))) σ
set_option maxHeartbeats 4000000 in
set_option maxRecDepth 20000 in
theorem s_X12_bufferedAt_L5 : ∀ (n : Nat), (∀ (x0 : Nat) (x1 : Int32) (x2 : Int32) (x3 : Int32) (x4 : Int32) (σ : eMem), Snd false none 0 m_X12_bufferedAt (f_X12_bufferedAt_L5 n (.inl (x0, x1, x2, x3, x4)) σ) (cN iI) (5, [(0, .inr (.inr (x0))), (1, .inl (x1)), (2, .inl (x2)), (3, .inl (x3)), (4, .inl (x4))], [], hp σ, 0, 0)) ∧ (∀ (x0 : Nat) (x1 : Int32) (x2 : Int32) (x4 : Int32) (s0 : Int32) (σ : eMem), Snd false none 0 m_X12_bufferedAt (f_X12_bufferedAt_L5 n (.inr ((x0, x1, x2, x4, s0))) σ) (cN iI) (46, [(0, .inr (.inr (x0))), (1, .inl (x1)), (2, .inl (x2)), (4, .inl (x4))], [.inl (s0)], hp σ, 0, 0)) := by
  intro n
  induction n with
  | zero => exact ⟨fun _ _ _ _ _ _ => T_none, fun _ _ _ _ _ _ => T_none⟩
  | succ n ih =>
    refine ⟨?_, ?_⟩
    · intro x0 x1 x2 x3 x4 σ
      unfold f_X12_bufferedAt_L5
      refine T_go (S' := (8, [(0, .inr (.inr (x0))), (1, .inl (x1)), (2, .inl (x2)), (3, .inl (x3)), (4, .inl (x4))], [.inr (.inr (x0)), .inl (x4)], hp σ, 0, 0)) 2 rfl ?_
      refine T_getR rfl (fun _ => ?_)
      refine T_go (S' := (12, [(0, .inr (.inr (x0))), (1, .inl (x1)), (2, .inl (x2)), (3, .inl (x3)), (4, .inl (x4))], [.inl (x1), .inr (.inr ((RH x0 20))), .inl (x4)], hp σ, 0, 0)) 1 rfl ?_
      refine T_iald rfl (fun _ => ?_)
      refine T_icmp_ge 53 rfl rfl (fun _ => ?_) (fun _ => ?_)
      · refine T_go (S' := (54, [(0, .inr (.inr (x0))), (1, .inl (x1)), (2, .inl (x2)), (3, .inl (x3)), (4, .inl (x4))], [.inl (x3)], hp σ, 0, 0)) 1 rfl ?_
        exact T_ret rfl
      · refine T_go (S' := (17, [(0, .inr (.inr (x0))), (1, .inl (x1)), (2, .inl (x2)), (3, .inl (x3)), (4, .inl (x4))], [.inr (.inr (x0))], hp σ, 0, 0)) 1 rfl ?_
        refine T_getR rfl (fun _ => ?_)
        refine T_go (S' := (26, [(0, .inr (.inr (x0))), (1, .inl (x1)), (2, .inl (x2)), (3, .inl (x3)), (4, .inl (x4))], [.inl ((((4 : Int32) * x1) + x4)), .inr (.inr ((RH x0 21)))], hp σ, 0, 0)) 5 rfl ?_
        refine T_iald rfl (fun _ => ?_)
        refine T_go (S' := (28, [(0, .inr (.inr (x0))), (1, .inl (x1)), (2, .inl (x2)), (3, .inl (x3)), (4, .inl (x4))], [.inl (x2), .inl ((σ.1 (RH x0 21) (((4 : Int32) * x1) + x4).toNatClampNeg))], hp σ, 0, 0)) 1 rfl ?_
        refine T_icmp_ne 45 rfl rfl (fun _ => ?_) (fun _ => ?_)
        · refine T_go (S' := (46, [(0, .inr (.inr (x0))), (1, .inl (x1)), (2, .inl (x2)), (3, .inl (x3)), (4, .inl (x4))], [.inl (x3)], hp σ, 0, 0)) 1 rfl ?_
          refine T_loc (ls' := [(0, .inr (.inr (x0))), (1, .inl (x1)), (2, .inl (x2)), (4, .inl (x4))]) [0, 1, 2, 4] rfl ?_
          exact (ih.2) x0 x1 x2 x4 x3 σ
        · refine T_go (S' := (32, [(0, .inr (.inr (x0))), (1, .inl (x1)), (2, .inl (x2)), (3, .inl (x3)), (4, .inl (x4))], [.inr (.inr (x0))], hp σ, 0, 0)) 1 rfl ?_
          refine T_getR rfl (fun _ => ?_)
          refine T_go (S' := (41, [(0, .inr (.inr (x0))), (1, .inl (x1)), (2, .inl (x2)), (3, .inl (x3)), (4, .inl (x4))], [.inl ((((4 : Int32) * x1) + x4)), .inr (.inr ((RH x0 22)))], hp σ, 0, 0)) 5 rfl ?_
          refine T_iald rfl (fun _ => ?_)
          refine T_go (S' := (46, [(0, .inr (.inr (x0))), (1, .inl (x1)), (2, .inl (x2)), (3, .inl (x3)), (4, .inl (x4))], [.inl ((σ.1 (RH x0 22) (((4 : Int32) * x1) + x4).toNatClampNeg))], hp σ, 0, 0)) 1 rfl ?_
          refine T_loc (ls' := [(0, .inr (.inr (x0))), (1, .inl (x1)), (2, .inl (x2)), (4, .inl (x4))]) [0, 1, 2, 4] rfl ?_
          exact (ih.2) x0 x1 x2 x4 (σ.1 (RH x0 22) (((4 : Int32) * x1) + x4).toNatClampNeg) σ
    · intro x0 x1 x2 x4 s0 σ
      unfold f_X12_bufferedAt_L5
      refine T_go (S' := (5, [(4, .inl ((x4 + (1 : Int32)))), (3, .inl (s0)), (0, .inr (.inr (x0))), (1, .inl (x1)), (2, .inl (x2))], [], hp σ, 0, 0)) 3 rfl ?_
      refine T_loc (ls' := [(0, .inr (.inr (x0))), (1, .inl (x1)), (2, .inl (x2)), (3, .inl (s0)), (4, .inl ((x4 + (1 : Int32))))]) [2, 3, 4, 1, 0] rfl ?_
      exact (ih.1) x0 x1 x2 s0 (x4 + (1 : Int32)) σ
def f_X12_bufferedAt (x0 : Nat) (x1 : Int32) (x2 : Int32) (σ : eMem) : Option (Int32 × eMem) :=
  f_X12_bufferedAt_L5 1000000 (.inl (x0, x1, x2, (-1 : Int32), (0 : Int32))) σ
set_option maxHeartbeats 4000000 in
set_option maxRecDepth 20000 in
theorem s_X12_bufferedAt (x0 : Nat) (x1 : Int32) (x2 : Int32) (σ : eMem) : ∀ r, f_X12_bufferedAt x0 x1 x2 σ = some r → Ew false 1 164 [.inr (.inr (x0)), .inl (x1), .inl (x2)] (hp σ) (cN iI r) := by
  refine T_meth (md := m_X12_bufferedAt) (d0 := 0) (cv := (cN iI)) rfl (lb rfl) (lb rfl) ?_
  unfold f_X12_bufferedAt
  show Snd false none _ _ _ _ (0, [(0, .inr (.inr (x0))), (1, .inl (x1)), (2, .inl (x2))], [], hp σ, 0, 0)
  refine T_go (S' := (5, [(4, .inl ((0 : Int32))), (3, .inl ((-1 : Int32))), (0, .inr (.inr (x0))), (1, .inl (x1)), (2, .inl (x2))], [], hp σ, 0, 0)) 4 rfl ?_
  refine T_loc (ls' := [(0, .inr (.inr (x0))), (1, .inl (x1)), (2, .inl (x2)), (3, .inl ((-1 : Int32))), (4, .inl ((0 : Int32)))]) [2, 3, 4, 1, 0] rfl ?_
  exact (s_X12_bufferedAt_L5 1000000).1 x0 x1 x2 (-1 : Int32) (0 : Int32) σ
def f_X12_reads_140 (x0 : Nat) (x1 : Int32) (x2 : Int32) (σ : eMem) : Option (Unit × eMem) :=
  if (KH x0).1 = 10 then
    if (KH (RH x0 29)).1 = 11 ∧ eix x1 (KH (RH x0 29)).2 = true then eLet ((eup σ.1 (RH x0 29) x1.toNatClampNeg x2, σ.2) : eMem) (fun σ1 =>
      some ((), σ1)
      ) else none
  else none
set_option maxHeartbeats 4000000 in
set_option maxRecDepth 20000 in
theorem s_X12_reads_140 (x0 : Nat) (x1 : Int32) (x2 : Int32) (σ : eMem) : Snd false none 2 m_X12_reads (f_X12_reads_140 x0 x1 x2 σ) (cN iU) (140, [(0, .inr (.inr (x0))), (1, .inl (x1)), (2, .inl (x2))], [], hp σ, 0, 0) := by
  unfold f_X12_reads_140
  refine T_go (S' := (141, [(0, .inr (.inr (x0))), (1, .inl (x1)), (2, .inl (x2))], [.inr (.inr (x0))], hp σ, 0, 0)) 1 rfl ?_
  refine T_getR rfl (fun _ => ?_)
  refine T_go (S' := (146, [(0, .inr (.inr (x0))), (1, .inl (x1)), (2, .inl (x2))], [.inl (x2), .inl (x1), .inr (.inr ((RH x0 29)))], hp σ, 0, 0)) 2 rfl ?_
  refine T_iast rfl (fun _ => ?_)
  refine T_let (Sf := fun σ1 => (147, [(0, .inr (.inr (x0))), (1, .inl (x1)), (2, .inl (x2))], [], hp σ1, 0, 0)) (fun σ1 => ?_)
  exact T_ret rfl
def f_X12_reads_111 (x0 : Nat) (x1 : Int32) (x2 : Int32) (x4 : Int32) (s0 : Int32) (σ : eMem) : Option (Unit × eMem) :=
  if s0 = (-1 : Int32) then
    f_X12_reads_140 x0 x1 x2 σ
  else
    if (KH x0).1 = 10 then
      Option.bind (f_X12_begins x0 x1 s0 x4 (0 : Int32) σ) (fun r1 =>
        if (KH x0).1 = 10 then
          if (KH (RH x0 31)).1 = 11 ∧ eix (6 : Int32) (KH (RH x0 31)).2 = true then
            if (KH (RH x0 31)).1 = 11 ∧ eix (6 : Int32) (KH (RH x0 31)).2 = true then eLet ((eup r1.2.1 (RH x0 31) (6 : Int32).toNatClampNeg ((r1.2.1 (RH x0 31) (6 : Int32).toNatClampNeg) + (1 : Int32)), r1.2.2) : eMem) (fun σ2 =>
              f_X12_reads_140 x0 x1 x2 σ2
              ) else none
          else none
        else none
        )
    else none
set_option maxHeartbeats 4000000 in
set_option maxRecDepth 20000 in
theorem s_X12_reads_111 (x0 : Nat) (x1 : Int32) (x2 : Int32) (x4 : Int32) (s0 : Int32) (σ : eMem) : Snd false none 2 m_X12_reads (f_X12_reads_111 x0 x1 x2 x4 s0 σ) (cN iU) (111, [(0, .inr (.inr (x0))), (1, .inl (x1)), (2, .inl (x2)), (4, .inl (x4))], [.inl (s0)], hp σ, 0, 0) := by
  unfold f_X12_reads_111
  refine T_go (S' := (116, [(6, .inl (s0)), (0, .inr (.inr (x0))), (1, .inl (x1)), (2, .inl (x2)), (4, .inl (x4))], [.inl ((-1 : Int32)), .inl (s0)], hp σ, 0, 0)) 3 rfl ?_
  refine T_icmp_eq 140 rfl rfl (fun _ => ?_) (fun _ => ?_)
  · refine T_loc (ls' := [(0, .inr (.inr (x0))), (1, .inl (x1)), (2, .inl (x2))]) [1, 2, 3] rfl ?_
    exact s_X12_reads_140 x0 x1 x2 σ
  · refine T_go (S' := (126, [(6, .inl (s0)), (0, .inr (.inr (x0))), (1, .inl (x1)), (2, .inl (x2)), (4, .inl (x4))], [.inl ((0 : Int32)), .inl (x4), .inl (s0), .inl (x1), .inr (.inr (x0))], hp σ, 0, 0)) 5 rfl ?_
    refine T_cv (i := iU) (as := [.inr (.inr (x0)), .inl (x1), .inl (s0), .inl (x4), .inl ((0 : Int32))]) (rest := []) (st := [.inl ((0 : Int32)), .inl (x4), .inl (s0), .inl (x1), .inr (.inr (x0))]) rfl rfl rfl ⟨lb rfl, lb rfl, lb rfl, lb rfl⟩ (fun _ h => Ew_le (lb rfl) (s_X12_begins x0 x1 s0 x4 (0 : Int32) σ _ h)) (fun _ r1 => ?_)
    show Snd false none _ _ _ (cN iU) (129, [(6, .inl (s0)), (0, .inr (.inr (x0))), (1, .inl (x1)), (2, .inl (x2)), (4, .inl (x4))], [], hp r1.2, 0, 0)
    refine T_go (S' := (130, [(6, .inl (s0)), (0, .inr (.inr (x0))), (1, .inl (x1)), (2, .inl (x2)), (4, .inl (x4))], [.inr (.inr (x0))], hp r1.2, 0, 0)) 1 rfl ?_
    refine T_getR rfl (fun _ => ?_)
    refine T_go (S' := (136, [(6, .inl (s0)), (0, .inr (.inr (x0))), (1, .inl (x1)), (2, .inl (x2)), (4, .inl (x4))], [.inl ((6 : Int32)), .inr (.inr ((RH x0 31))), .inl ((6 : Int32)), .inr (.inr ((RH x0 31)))], hp r1.2, 0, 0)) 2 rfl ?_
    refine T_iald rfl (fun _ => ?_)
    refine T_go (S' := (139, [(6, .inl (s0)), (0, .inr (.inr (x0))), (1, .inl (x1)), (2, .inl (x2)), (4, .inl (x4))], [.inl (((r1.2.1 (RH x0 31) (6 : Int32).toNatClampNeg) + (1 : Int32))), .inl ((6 : Int32)), .inr (.inr ((RH x0 31)))], hp r1.2, 0, 0)) 2 rfl ?_
    refine T_iast rfl (fun _ => ?_)
    refine T_let (Sf := fun σ2 => (140, [(6, .inl (s0)), (0, .inr (.inr (x0))), (1, .inl (x1)), (2, .inl (x2)), (4, .inl (x4))], [], hp σ2, 0, 0)) (fun σ2 => ?_)
    refine T_loc (ls' := [(0, .inr (.inr (x0))), (1, .inl (x1)), (2, .inl (x2))]) [1, 2, 3] rfl ?_
    exact s_X12_reads_140 x0 x1 x2 σ2
def f_X12_reads_95 (x0 : Nat) (x1 : Int32) (x2 : Int32) (x4 : Int32) (s0 : Int32) (σ : eMem) : Option (Unit × eMem) :=
  if s0 = (0 : Int32) then
    f_X12_reads_111 x0 x1 x2 x4 (-1 : Int32) σ
  else
    if (KH x0).1 = 10 then
      Option.bind (f_X12_emptyPlace x0 x1 σ) (fun r1 =>
        f_X12_reads_111 x0 x1 x2 x4 r1.1 r1.2
        )
    else none
set_option maxHeartbeats 4000000 in
set_option maxRecDepth 20000 in
theorem s_X12_reads_95 (x0 : Nat) (x1 : Int32) (x2 : Int32) (x4 : Int32) (s0 : Int32) (σ : eMem) : Snd false none 2 m_X12_reads (f_X12_reads_95 x0 x1 x2 x4 s0 σ) (cN iU) (95, [(0, .inr (.inr (x0))), (1, .inl (x1)), (2, .inl (x2)), (4, .inl (x4))], [.inl (s0)], hp σ, 0, 0) := by
  unfold f_X12_reads_95
  refine T_go (S' := (99, [(5, .inl (s0)), (0, .inr (.inr (x0))), (1, .inl (x1)), (2, .inl (x2)), (4, .inl (x4))], [.inl (s0)], hp σ, 0, 0)) 2 rfl ?_
  refine T_if_eq 110 rfl rfl (fun _ => ?_) (fun _ => ?_)
  · refine T_go (S' := (111, [(5, .inl (s0)), (0, .inr (.inr (x0))), (1, .inl (x1)), (2, .inl (x2)), (4, .inl (x4))], [.inl ((-1 : Int32))], hp σ, 0, 0)) 1 rfl ?_
    refine T_loc (ls' := [(0, .inr (.inr (x0))), (1, .inl (x1)), (2, .inl (x2)), (4, .inl (x4))]) [1, 2, 3, 4] rfl ?_
    exact s_X12_reads_111 x0 x1 x2 x4 (-1 : Int32) σ
  · refine T_go (S' := (104, [(5, .inl (s0)), (0, .inr (.inr (x0))), (1, .inl (x1)), (2, .inl (x2)), (4, .inl (x4))], [.inl (x1), .inr (.inr (x0))], hp σ, 0, 0)) 2 rfl ?_
    refine T_cv (i := iI) (as := [.inr (.inr (x0)), .inl (x1)]) (rest := []) (st := [.inl (x1), .inr (.inr (x0))]) rfl rfl rfl ⟨lb rfl, lb rfl, lb rfl, lb rfl⟩ (fun _ h => Ew_le (lb rfl) (s_X12_emptyPlace x0 x1 σ _ h)) (fun _ r1 => ?_)
    show Snd false none _ _ _ (cN iU) (107, [(5, .inl (s0)), (0, .inr (.inr (x0))), (1, .inl (x1)), (2, .inl (x2)), (4, .inl (x4))], [.inl (r1.1)], hp r1.2, 0, 0)
    refine T_go (S' := (111, [(5, .inl (s0)), (0, .inr (.inr (x0))), (1, .inl (x1)), (2, .inl (x2)), (4, .inl (x4))], [.inl (r1.1)], hp r1.2, 0, 0)) 1 rfl ?_
    refine T_loc (ls' := [(0, .inr (.inr (x0))), (1, .inl (x1)), (2, .inl (x2)), (4, .inl (x4))]) [1, 2, 3, 4] rfl ?_
    exact s_X12_reads_111 x0 x1 x2 x4 r1.1 r1.2
def f_X12_reads_94 (x0 : Nat) (x1 : Int32) (x2 : Int32) (x4 : Int32) (σ : eMem) : Option (Unit × eMem) :=
  f_X12_reads_95 x0 x1 x2 x4 (0 : Int32) σ
set_option maxHeartbeats 4000000 in
set_option maxRecDepth 20000 in
theorem s_X12_reads_94 (x0 : Nat) (x1 : Int32) (x2 : Int32) (x4 : Int32) (σ : eMem) : Snd false none 2 m_X12_reads (f_X12_reads_94 x0 x1 x2 x4 σ) (cN iU) (94, [(0, .inr (.inr (x0))), (1, .inl (x1)), (2, .inl (x2)), (4, .inl (x4))], [], hp σ, 0, 0) := by
  unfold f_X12_reads_94
  refine T_go (S' := (95, [(0, .inr (.inr (x0))), (1, .inl (x1)), (2, .inl (x2)), (4, .inl (x4))], [.inl ((0 : Int32))], hp σ, 0, 0)) 1 rfl ?_
  refine T_loc (ls' := [(0, .inr (.inr (x0))), (1, .inl (x1)), (2, .inl (x2)), (4, .inl (x4))]) [0, 1, 2, 3] rfl ?_
  exact s_X12_reads_95 x0 x1 x2 x4 (0 : Int32) σ
def f_X12_reads (x0 : Nat) (x1 : Int32) (x2 : Int32) (σ : eMem) : Option (Unit × eMem) :=
  if (KH x0).1 = 10 then
    if (KH (RH x0 30)).1 = 11 ∧ eix x1 (KH (RH x0 30)).2 = true then
      eLet ((σ.1 (RH x0 30) x1.toNatClampNeg) : Int32) (fun v1 =>
        if (KH x0).1 = 10 then
          if (KH (RH x0 29)).1 = 11 ∧ eix x1 (KH (RH x0 29)).2 = true then
            if (σ.1 (RH x0 29) x1.toNatClampNeg) = (-1 : Int32) then
              f_X12_reads_140 x0 x1 x2 σ
            else
              if (KH x0).1 = 10 then
                if (KH x0).1 = 10 then
                  if (KH (RH x0 29)).1 = 11 ∧ eix x1 (KH (RH x0 29)).2 = true then
                    if (KH (RH x0 30)).1 = 11 ∧ eix x1 (KH (RH x0 30)).2 = true then eLet ((eup σ.1 (RH x0 30) x1.toNatClampNeg (x2 - (σ.1 (RH x0 29) x1.toNatClampNeg)), σ.2) : eMem) (fun σ2 =>
                      if (KH x0).1 = 10 then
                        if (KH (RH x0 30)).1 = 11 ∧ eix x1 (KH (RH x0 30)).2 = true then
                          eLet ((x2 + (σ2.1 (RH x0 30) x1.toNatClampNeg)) : Int32) (fun v3 =>
                            if (KH x0).1 = 10 then
                              if (KH (RH x0 30)).1 = 11 ∧ eix x1 (KH (RH x0 30)).2 = true then
                                if ¬ (σ2.1 (RH x0 30) x1.toNatClampNeg) = v1 then
                                  f_X12_reads_94 x0 x1 x2 v3 σ2
                                else
                                  if v1 = (0 : Int32) then
                                    f_X12_reads_94 x0 x1 x2 v3 σ2
                                  else
                                    Option.bind (f_X12_isLine v3 σ2) (fun r4 =>
                                      if r4.1 = (0 : Int32) then
                                        f_X12_reads_94 x0 x1 x2 v3 r4.2
                                      else
                                        if (KH x0).1 = 10 then
                                          Option.bind (f_X12_placeOf x0 x1 v3 r4.2) (fun r5 =>
                                            if ¬ r5.1 = (-1 : Int32) then
                                              f_X12_reads_94 x0 x1 x2 v3 r5.2
                                            else
                                              if (KH x0).1 = 10 then
                                                if (KH (RH x0 19)).1 = 11 ∧ eix (((16 : Int32) * x1) + v3) (KH (RH x0 19)).2 = true then
                                                  if ¬ (r5.2.1 (RH x0 19) (((16 : Int32) * x1) + v3).toNatClampNeg) = (-1 : Int32) then
                                                    f_X12_reads_94 x0 x1 x2 v3 r5.2
                                                  else
                                                    f_X12_reads_95 x0 x1 x2 v3 (1 : Int32) r5.2
                                                else none
                                              else none
                                            )
                                        else none
                                      )
                              else none
                            else none
                            )
                        else none
                      else none
                      ) else none
                  else none
                else none
              else none
          else none
        else none
        )
    else none
  else none
set_option maxHeartbeats 4000000 in
set_option maxRecDepth 20000 in
theorem s_X12_reads (x0 : Nat) (x1 : Int32) (x2 : Int32) (σ : eMem) : ∀ r, f_X12_reads x0 x1 x2 σ = some r → Ew false 3 165 [.inr (.inr (x0)), .inl (x1), .inl (x2)] (hp σ) (cN iU r) := by
  refine T_meth (md := m_X12_reads) (d0 := 2) (cv := (cN iU)) rfl (lb rfl) (lb rfl) ?_
  unfold f_X12_reads
  show Snd false none _ _ _ _ (0, [(0, .inr (.inr (x0))), (1, .inl (x1)), (2, .inl (x2))], [], hp σ, 0, 0)
  refine T_go (S' := (1, [(0, .inr (.inr (x0))), (1, .inl (x1)), (2, .inl (x2))], [.inr (.inr (x0))], hp σ, 0, 0)) 1 rfl ?_
  refine T_getR rfl (fun _ => ?_)
  refine T_go (S' := (5, [(0, .inr (.inr (x0))), (1, .inl (x1)), (2, .inl (x2))], [.inl (x1), .inr (.inr ((RH x0 30)))], hp σ, 0, 0)) 1 rfl ?_
  refine T_iald rfl (fun _ => ?_)
  refine T_go (S' := (7, [(3, .inl ((σ.1 (RH x0 30) x1.toNatClampNeg))), (0, .inr (.inr (x0))), (1, .inl (x1)), (2, .inl (x2))], [], hp σ, 0, 0)) 1 rfl ?_
  refine T_let (Sf := fun v1 => (7, [(3, .inl (v1)), (0, .inr (.inr (x0))), (1, .inl (x1)), (2, .inl (x2))], [], hp σ, 0, 0)) (fun v1 => ?_)
  refine T_go (S' := (8, [(3, .inl (v1)), (0, .inr (.inr (x0))), (1, .inl (x1)), (2, .inl (x2))], [.inr (.inr (x0))], hp σ, 0, 0)) 1 rfl ?_
  refine T_getR rfl (fun _ => ?_)
  refine T_go (S' := (12, [(3, .inl (v1)), (0, .inr (.inr (x0))), (1, .inl (x1)), (2, .inl (x2))], [.inl (x1), .inr (.inr ((RH x0 29)))], hp σ, 0, 0)) 1 rfl ?_
  refine T_iald rfl (fun _ => ?_)
  refine T_go (S' := (14, [(3, .inl (v1)), (0, .inr (.inr (x0))), (1, .inl (x1)), (2, .inl (x2))], [.inl ((-1 : Int32)), .inl ((σ.1 (RH x0 29) x1.toNatClampNeg))], hp σ, 0, 0)) 1 rfl ?_
  refine T_icmp_eq 140 rfl rfl (fun _ => ?_) (fun _ => ?_)
  · refine T_loc (ls' := [(0, .inr (.inr (x0))), (1, .inl (x1)), (2, .inl (x2))]) [1, 2, 3] rfl ?_
    exact s_X12_reads_140 x0 x1 x2 σ
  · refine T_go (S' := (18, [(3, .inl (v1)), (0, .inr (.inr (x0))), (1, .inl (x1)), (2, .inl (x2))], [.inr (.inr (x0))], hp σ, 0, 0)) 1 rfl ?_
    refine T_getR rfl (fun _ => ?_)
    refine T_go (S' := (24, [(3, .inl (v1)), (0, .inr (.inr (x0))), (1, .inl (x1)), (2, .inl (x2))], [.inr (.inr (x0)), .inl (x2), .inl (x1), .inr (.inr ((RH x0 30)))], hp σ, 0, 0)) 3 rfl ?_
    refine T_getR rfl (fun _ => ?_)
    refine T_go (S' := (28, [(3, .inl (v1)), (0, .inr (.inr (x0))), (1, .inl (x1)), (2, .inl (x2))], [.inl (x1), .inr (.inr ((RH x0 29))), .inl (x2), .inl (x1), .inr (.inr ((RH x0 30)))], hp σ, 0, 0)) 1 rfl ?_
    refine T_iald rfl (fun _ => ?_)
    refine T_go (S' := (30, [(3, .inl (v1)), (0, .inr (.inr (x0))), (1, .inl (x1)), (2, .inl (x2))], [.inl ((x2 - (σ.1 (RH x0 29) x1.toNatClampNeg))), .inl (x1), .inr (.inr ((RH x0 30)))], hp σ, 0, 0)) 1 rfl ?_
    refine T_iast rfl (fun _ => ?_)
    refine T_let (Sf := fun σ2 => (31, [(3, .inl (v1)), (0, .inr (.inr (x0))), (1, .inl (x1)), (2, .inl (x2))], [], hp σ2, 0, 0)) (fun σ2 => ?_)
    refine T_go (S' := (33, [(3, .inl (v1)), (0, .inr (.inr (x0))), (1, .inl (x1)), (2, .inl (x2))], [.inr (.inr (x0)), .inl (x2)], hp σ2, 0, 0)) 2 rfl ?_
    refine T_getR rfl (fun _ => ?_)
    refine T_go (S' := (37, [(3, .inl (v1)), (0, .inr (.inr (x0))), (1, .inl (x1)), (2, .inl (x2))], [.inl (x1), .inr (.inr ((RH x0 30))), .inl (x2)], hp σ2, 0, 0)) 1 rfl ?_
    refine T_iald rfl (fun _ => ?_)
    refine T_go (S' := (41, [(4, .inl ((x2 + (σ2.1 (RH x0 30) x1.toNatClampNeg)))), (3, .inl (v1)), (0, .inr (.inr (x0))), (1, .inl (x1)), (2, .inl (x2))], [], hp σ2, 0, 0)) 2 rfl ?_
    refine T_let (Sf := fun v3 => (41, [(4, .inl (v3)), (3, .inl (v1)), (0, .inr (.inr (x0))), (1, .inl (x1)), (2, .inl (x2))], [], hp σ2, 0, 0)) (fun v3 => ?_)
    refine T_go (S' := (42, [(4, .inl (v3)), (3, .inl (v1)), (0, .inr (.inr (x0))), (1, .inl (x1)), (2, .inl (x2))], [.inr (.inr (x0))], hp σ2, 0, 0)) 1 rfl ?_
    refine T_getR rfl (fun _ => ?_)
    refine T_go (S' := (46, [(4, .inl (v3)), (3, .inl (v1)), (0, .inr (.inr (x0))), (1, .inl (x1)), (2, .inl (x2))], [.inl (x1), .inr (.inr ((RH x0 30)))], hp σ2, 0, 0)) 1 rfl ?_
    refine T_iald rfl (fun _ => ?_)
    refine T_go (S' := (48, [(4, .inl (v3)), (3, .inl (v1)), (0, .inr (.inr (x0))), (1, .inl (x1)), (2, .inl (x2))], [.inl (v1), .inl ((σ2.1 (RH x0 30) x1.toNatClampNeg))], hp σ2, 0, 0)) 1 rfl ?_
    refine T_icmp_ne 94 rfl rfl (fun _ => ?_) (fun _ => ?_)
    · refine T_loc (ls' := [(0, .inr (.inr (x0))), (1, .inl (x1)), (2, .inl (x2)), (4, .inl (v3))]) [2, 3, 4, 0] rfl ?_
      exact s_X12_reads_94 x0 x1 x2 v3 σ2
    · refine T_go (S' := (52, [(4, .inl (v3)), (3, .inl (v1)), (0, .inr (.inr (x0))), (1, .inl (x1)), (2, .inl (x2))], [.inl (v1)], hp σ2, 0, 0)) 1 rfl ?_
      refine T_if_eq 94 rfl rfl (fun _ => ?_) (fun _ => ?_)
      · refine T_loc (ls' := [(0, .inr (.inr (x0))), (1, .inl (x1)), (2, .inl (x2)), (4, .inl (v3))]) [2, 3, 4, 0] rfl ?_
        exact s_X12_reads_94 x0 x1 x2 v3 σ2
      · refine T_go (S' := (57, [(4, .inl (v3)), (3, .inl (v1)), (0, .inr (.inr (x0))), (1, .inl (x1)), (2, .inl (x2))], [.inl (v3)], hp σ2, 0, 0)) 1 rfl ?_
        refine T_cs (i := iI) (as := [.inl (v3)]) (rest := []) (st := [.inl (v3)]) rfl (lb rfl) rfl rfl ⟨lb rfl, lb rfl, lb rfl, lb rfl⟩ (fun _ h => Ew_le (lb rfl) (s_X12_isLine v3 σ2 _ h)) (fun r4 => ?_)
        show Snd false none _ _ _ (cN iU) (60, [(4, .inl (v3)), (3, .inl (v1)), (0, .inr (.inr (x0))), (1, .inl (x1)), (2, .inl (x2))], [.inl (r4.1)], hp r4.2, 0, 0)
        refine T_if_eq 94 rfl rfl (fun _ => ?_) (fun _ => ?_)
        · refine T_loc (ls' := [(0, .inr (.inr (x0))), (1, .inl (x1)), (2, .inl (x2)), (4, .inl (v3))]) [2, 3, 4, 0] rfl ?_
          exact s_X12_reads_94 x0 x1 x2 v3 r4.2
        · refine T_go (S' := (67, [(4, .inl (v3)), (3, .inl (v1)), (0, .inr (.inr (x0))), (1, .inl (x1)), (2, .inl (x2))], [.inl (v3), .inl (x1), .inr (.inr (x0))], hp r4.2, 0, 0)) 3 rfl ?_
          refine T_cv (i := iI) (as := [.inr (.inr (x0)), .inl (x1), .inl (v3)]) (rest := []) (st := [.inl (v3), .inl (x1), .inr (.inr (x0))]) rfl rfl rfl ⟨lb rfl, lb rfl, lb rfl, lb rfl⟩ (fun _ h => Ew_le (lb rfl) (s_X12_placeOf x0 x1 v3 r4.2 _ h)) (fun _ r5 => ?_)
          show Snd false none _ _ _ (cN iU) (70, [(4, .inl (v3)), (3, .inl (v1)), (0, .inr (.inr (x0))), (1, .inl (x1)), (2, .inl (x2))], [.inl (r5.1)], hp r5.2, 0, 0)
          refine T_go (S' := (71, [(4, .inl (v3)), (3, .inl (v1)), (0, .inr (.inr (x0))), (1, .inl (x1)), (2, .inl (x2))], [.inl ((-1 : Int32)), .inl (r5.1)], hp r5.2, 0, 0)) 1 rfl ?_
          refine T_icmp_ne 94 rfl rfl (fun _ => ?_) (fun _ => ?_)
          · refine T_loc (ls' := [(0, .inr (.inr (x0))), (1, .inl (x1)), (2, .inl (x2)), (4, .inl (v3))]) [2, 3, 4, 0] rfl ?_
            exact s_X12_reads_94 x0 x1 x2 v3 r5.2
          · refine T_go (S' := (75, [(4, .inl (v3)), (3, .inl (v1)), (0, .inr (.inr (x0))), (1, .inl (x1)), (2, .inl (x2))], [.inr (.inr (x0))], hp r5.2, 0, 0)) 1 rfl ?_
            refine T_getR rfl (fun _ => ?_)
            refine T_go (S' := (85, [(4, .inl (v3)), (3, .inl (v1)), (0, .inr (.inr (x0))), (1, .inl (x1)), (2, .inl (x2))], [.inl ((((16 : Int32) * x1) + v3)), .inr (.inr ((RH x0 19)))], hp r5.2, 0, 0)) 5 rfl ?_
            refine T_iald rfl (fun _ => ?_)
            refine T_go (S' := (87, [(4, .inl (v3)), (3, .inl (v1)), (0, .inr (.inr (x0))), (1, .inl (x1)), (2, .inl (x2))], [.inl ((-1 : Int32)), .inl ((r5.2.1 (RH x0 19) (((16 : Int32) * x1) + v3).toNatClampNeg))], hp r5.2, 0, 0)) 1 rfl ?_
            refine T_icmp_ne 94 rfl rfl (fun _ => ?_) (fun _ => ?_)
            · refine T_loc (ls' := [(0, .inr (.inr (x0))), (1, .inl (x1)), (2, .inl (x2)), (4, .inl (v3))]) [2, 3, 4, 0] rfl ?_
              exact s_X12_reads_94 x0 x1 x2 v3 r5.2
            · refine T_go (S' := (95, [(4, .inl (v3)), (3, .inl (v1)), (0, .inr (.inr (x0))), (1, .inl (x1)), (2, .inl (x2))], [.inl ((1 : Int32))], hp r5.2, 0, 0)) 2 rfl ?_
              refine T_loc (ls' := [(0, .inr (.inr (x0))), (1, .inl (x1)), (2, .inl (x2)), (4, .inl (v3))]) [2, 3, 4, 0] rfl ?_
              exact s_X12_reads_95 x0 x1 x2 v3 (1 : Int32) r5.2
def f_X12_load_141 (x0 : Nat) (x4 : Int32) (s0 : Nat) (s1 : Int32) (s2 : Int32) (s3 : Int32) (σ : eMem) : Option (Int32 × eMem) :=
  if (KH s0).1 = 11 ∧ eix s1 (KH s0).2 = true then eLet ((eup σ.1 s0 s1.toNatClampNeg (s2 ||| s3), σ.2) : eMem) (fun σ1 =>
    if (KH x0).1 = 10 then
      if (KH (RH x0 14)).1 = 11 ∧ eix x4 (KH (RH x0 14)).2 = true then
        some ((σ1.1 (RH x0 14) x4.toNatClampNeg), σ1)
      else none
    else none
    ) else none
set_option maxHeartbeats 4000000 in
set_option maxRecDepth 20000 in
theorem s_X12_load_141 (x0 : Nat) (x4 : Int32) (s0 : Nat) (s1 : Int32) (s2 : Int32) (s3 : Int32) (σ : eMem) : Snd false none 3 m_X12_load (f_X12_load_141 x0 x4 s0 s1 s2 s3 σ) (cN iI) (141, [(0, .inr (.inr (x0))), (4, .inl (x4))], [.inl (s3), .inl (s2), .inl (s1), .inr (.inr (s0))], hp σ, 0, 0) := by
  unfold f_X12_load_141
  refine T_go (S' := (142, [(0, .inr (.inr (x0))), (4, .inl (x4))], [.inl ((s2 ||| s3)), .inl (s1), .inr (.inr (s0))], hp σ, 0, 0)) 1 rfl ?_
  refine T_iast rfl (fun _ => ?_)
  refine T_let (Sf := fun σ1 => (143, [(0, .inr (.inr (x0))), (4, .inl (x4))], [], hp σ1, 0, 0)) (fun σ1 => ?_)
  refine T_go (S' := (144, [(0, .inr (.inr (x0))), (4, .inl (x4))], [.inr (.inr (x0))], hp σ1, 0, 0)) 1 rfl ?_
  refine T_getR rfl (fun _ => ?_)
  refine T_go (S' := (149, [(0, .inr (.inr (x0))), (4, .inl (x4))], [.inl (x4), .inr (.inr ((RH x0 14)))], hp σ1, 0, 0)) 1 rfl ?_
  refine T_iald rfl (fun _ => ?_)
  exact T_ret rfl
def f_X12_load_176  (σ : eMem) : Option (Int32 × eMem) :=
  some ((-1 : Int32), σ)
set_option maxHeartbeats 4000000 in
set_option maxRecDepth 20000 in
theorem s_X12_load_176  (σ : eMem) : Snd false none 3 m_X12_load (f_X12_load_176 σ) (cN iI) (176, [], [], hp σ, 0, 0) := by
  unfold f_X12_load_176
  refine T_go (S' := (177, [], [.inl ((-1 : Int32))], hp σ, 0, 0)) 1 rfl ?_
  exact T_ret rfl
def f_X12_load_151 (x0 : Nat) (x1 : Int32) (x2 : Int32) (σ : eMem) : Option (Int32 × eMem) :=
  if (KH x0).1 = 10 then
    Option.bind (f_X12_asksFor x0 x1 x2 (0 : Int32) σ) (fun r1 =>
      if r1.1 = (0 : Int32) then
        f_X12_load_176  r1.2
      else
        if (KH x0).1 = 10 then
          if (KH (RH x0 23)).1 = 13 ∧ eix x1 (KH (RH x0 23)).2 = true then
            if ¬ (r1.2.1 (RH x0 23) x1.toNatClampNeg) = (0 : Int32) then
              f_X12_load_176  r1.2
            else
              if (KH x0).1 = 10 then
                Option.bind (f_X12_reads x0 x1 x2 r1.2) (fun r2 =>
                  f_X12_load_176  r2.2
                  )
              else none
          else none
        else none
      )
  else none
set_option maxHeartbeats 4000000 in
set_option maxRecDepth 20000 in
theorem s_X12_load_151 (x0 : Nat) (x1 : Int32) (x2 : Int32) (σ : eMem) : Snd false none 3 m_X12_load (f_X12_load_151 x0 x1 x2 σ) (cN iI) (151, [(0, .inr (.inr (x0))), (1, .inl (x1)), (2, .inl (x2))], [], hp σ, 0, 0) := by
  unfold f_X12_load_151
  refine T_go (S' := (155, [(0, .inr (.inr (x0))), (1, .inl (x1)), (2, .inl (x2))], [.inl ((0 : Int32)), .inl (x2), .inl (x1), .inr (.inr (x0))], hp σ, 0, 0)) 4 rfl ?_
  refine T_cv (i := iI) (as := [.inr (.inr (x0)), .inl (x1), .inl (x2), .inl ((0 : Int32))]) (rest := []) (st := [.inl ((0 : Int32)), .inl (x2), .inl (x1), .inr (.inr (x0))]) rfl rfl rfl ⟨lb rfl, lb rfl, lb rfl, lb rfl⟩ (fun _ h => Ew_le (lb rfl) (s_X12_asksFor x0 x1 x2 (0 : Int32) σ _ h)) (fun _ r1 => ?_)
  show Snd false none _ _ _ (cN iI) (158, [(0, .inr (.inr (x0))), (1, .inl (x1)), (2, .inl (x2))], [.inl (r1.1)], hp r1.2, 0, 0)
  refine T_if_eq 176 rfl rfl (fun _ => ?_) (fun _ => ?_)
  · refine T_loc (ls' := []) [] rfl ?_
    exact s_X12_load_176  r1.2
  · refine T_go (S' := (162, [(0, .inr (.inr (x0))), (1, .inl (x1)), (2, .inl (x2))], [.inr (.inr (x0))], hp r1.2, 0, 0)) 1 rfl ?_
    refine T_getR rfl (fun _ => ?_)
    refine T_go (S' := (166, [(0, .inr (.inr (x0))), (1, .inl (x1)), (2, .inl (x2))], [.inl (x1), .inr (.inr ((RH x0 23)))], hp r1.2, 0, 0)) 1 rfl ?_
    refine T_bald rfl (fun _ => ?_)
    refine T_if_ne 176 rfl rfl (fun _ => ?_) (fun _ => ?_)
    · refine T_loc (ls' := []) [] rfl ?_
      exact s_X12_load_176  r1.2
    · refine T_go (S' := (173, [(0, .inr (.inr (x0))), (1, .inl (x1)), (2, .inl (x2))], [.inl (x2), .inl (x1), .inr (.inr (x0))], hp r1.2, 0, 0)) 3 rfl ?_
      refine T_cv (i := iU) (as := [.inr (.inr (x0)), .inl (x1), .inl (x2)]) (rest := []) (st := [.inl (x2), .inl (x1), .inr (.inr (x0))]) rfl rfl rfl ⟨lb rfl, lb rfl, lb rfl, lb rfl⟩ (fun _ h => Ew_le (lb rfl) (s_X12_reads x0 x1 x2 r1.2 _ h)) (fun _ r2 => ?_)
      show Snd false none _ _ _ (cN iI) (176, [(0, .inr (.inr (x0))), (1, .inl (x1)), (2, .inl (x2))], [], hp r2.2, 0, 0)
      refine T_loc (ls' := []) [] rfl ?_
      exact s_X12_load_176  r2.2
def f_X12_load_61 (x0 : Nat) (x1 : Int32) (x2 : Int32) (σ : eMem) : Option (Int32 × eMem) :=
  if (KH x0).1 = 10 then
    Option.bind (f_X12_bufferedAt x0 x1 x2 σ) (fun r1 =>
      if r1.1 = (-1 : Int32) then
        if (KH x0).1 = 10 then
          Option.bind (f_X12_placeOf x0 x1 x2 r1.2) (fun r2 =>
            if r2.1 = (-1 : Int32) then
              f_X12_load_151 x0 x1 x2 r2.2
            else
              if (KH x0).1 = 10 then
                if (KH (RH x0 13)).1 = 11 ∧ eix r2.1 (KH (RH x0 13)).2 = true then
                  Option.bind (f_X12_isWaiting (r2.2.1 (RH x0 13) r2.1.toNatClampNeg) r2.2) (fun r3 =>
                    if ¬ r3.1 = (0 : Int32) then
                      f_X12_load_151 x0 x1 x2 r3.2
                    else
                      if (KH x0).1 = 10 then
                        Option.bind (f_X12_uses x0 r2.1 r3.2) (fun r4 =>
                          if (KH x0).1 = 10 then
                            if (KH (RH x0 31)).1 = 11 ∧ eix (0 : Int32) (KH (RH x0 31)).2 = true then
                              if (KH (RH x0 31)).1 = 11 ∧ eix (0 : Int32) (KH (RH x0 31)).2 = true then eLet ((eup r4.2.1 (RH x0 31) (0 : Int32).toNatClampNeg ((r4.2.1 (RH x0 31) (0 : Int32).toNatClampNeg) + (1 : Int32)), r4.2.2) : eMem) (fun σ5 =>
                                if (KH x0).1 = 10 then
                                  if (KH (RH x0 26)).1 = 11 ∧ eix x1 (KH (RH x0 26)).2 = true then
                                    if (KH x0).1 = 10 then
                                      if (KH (RH x0 23)).1 = 13 ∧ eix x1 (KH (RH x0 23)).2 = true then
                                        if (σ5.1 (RH x0 23) x1.toNatClampNeg) = (0 : Int32) then
                                          f_X12_load_141 x0 r2.1 (RH x0 26) x1 (σ5.1 (RH x0 26) x1.toNatClampNeg) (0 : Int32) σ5
                                        else
                                          f_X12_load_141 x0 r2.1 (RH x0 26) x1 (σ5.1 (RH x0 26) x1.toNatClampNeg) ((1 : Int32) <<< (x2 &&& 31)) σ5
                                      else none
                                    else none
                                  else none
                                else none
                                ) else none
                            else none
                          else none
                          )
                      else none
                    )
                else none
              else none
            )
        else none
      else
        some (r1.1, r1.2)
      )
  else none
set_option maxHeartbeats 4000000 in
set_option maxRecDepth 20000 in
theorem s_X12_load_61 (x0 : Nat) (x1 : Int32) (x2 : Int32) (σ : eMem) : Snd false none 3 m_X12_load (f_X12_load_61 x0 x1 x2 σ) (cN iI) (61, [(0, .inr (.inr (x0))), (1, .inl (x1)), (2, .inl (x2))], [], hp σ, 0, 0) := by
  unfold f_X12_load_61
  refine T_go (S' := (64, [(0, .inr (.inr (x0))), (1, .inl (x1)), (2, .inl (x2))], [.inl (x2), .inl (x1), .inr (.inr (x0))], hp σ, 0, 0)) 3 rfl ?_
  refine T_cv (i := iI) (as := [.inr (.inr (x0)), .inl (x1), .inl (x2)]) (rest := []) (st := [.inl (x2), .inl (x1), .inr (.inr (x0))]) rfl rfl rfl ⟨lb rfl, lb rfl, lb rfl, lb rfl⟩ (fun _ h => Ew_le (lb rfl) (s_X12_bufferedAt x0 x1 x2 σ _ h)) (fun _ r1 => ?_)
  show Snd false none _ _ _ (cN iI) (67, [(0, .inr (.inr (x0))), (1, .inl (x1)), (2, .inl (x2))], [.inl (r1.1)], hp r1.2, 0, 0)
  refine T_go (S' := (70, [(3, .inl (r1.1)), (0, .inr (.inr (x0))), (1, .inl (x1)), (2, .inl (x2))], [.inl ((-1 : Int32)), .inl (r1.1)], hp r1.2, 0, 0)) 3 rfl ?_
  refine T_icmp_eq 75 rfl rfl (fun _ => ?_) (fun _ => ?_)
  · refine T_go (S' := (78, [(3, .inl (r1.1)), (0, .inr (.inr (x0))), (1, .inl (x1)), (2, .inl (x2))], [.inl (x2), .inl (x1), .inr (.inr (x0))], hp r1.2, 0, 0)) 3 rfl ?_
    refine T_cv (i := iI) (as := [.inr (.inr (x0)), .inl (x1), .inl (x2)]) (rest := []) (st := [.inl (x2), .inl (x1), .inr (.inr (x0))]) rfl rfl rfl ⟨lb rfl, lb rfl, lb rfl, lb rfl⟩ (fun _ h => Ew_le (lb rfl) (s_X12_placeOf x0 x1 x2 r1.2 _ h)) (fun _ r2 => ?_)
    show Snd false none _ _ _ (cN iI) (81, [(3, .inl (r1.1)), (0, .inr (.inr (x0))), (1, .inl (x1)), (2, .inl (x2))], [.inl (r2.1)], hp r2.2, 0, 0)
    refine T_go (S' := (86, [(4, .inl (r2.1)), (3, .inl (r1.1)), (0, .inr (.inr (x0))), (1, .inl (x1)), (2, .inl (x2))], [.inl ((-1 : Int32)), .inl (r2.1)], hp r2.2, 0, 0)) 3 rfl ?_
    refine T_icmp_eq 151 rfl rfl (fun _ => ?_) (fun _ => ?_)
    · refine T_loc (ls' := [(0, .inr (.inr (x0))), (1, .inl (x1)), (2, .inl (x2))]) [2, 3, 4] rfl ?_
      exact s_X12_load_151 x0 x1 x2 r2.2
    · refine T_go (S' := (90, [(4, .inl (r2.1)), (3, .inl (r1.1)), (0, .inr (.inr (x0))), (1, .inl (x1)), (2, .inl (x2))], [.inr (.inr (x0))], hp r2.2, 0, 0)) 1 rfl ?_
      refine T_getR rfl (fun _ => ?_)
      refine T_go (S' := (95, [(4, .inl (r2.1)), (3, .inl (r1.1)), (0, .inr (.inr (x0))), (1, .inl (x1)), (2, .inl (x2))], [.inl (r2.1), .inr (.inr ((RH x0 13)))], hp r2.2, 0, 0)) 1 rfl ?_
      refine T_iald rfl (fun _ => ?_)
      refine T_cs (i := iI) (as := [.inl ((r2.2.1 (RH x0 13) r2.1.toNatClampNeg))]) (rest := []) (st := [.inl ((r2.2.1 (RH x0 13) r2.1.toNatClampNeg))]) rfl (lb rfl) rfl rfl ⟨lb rfl, lb rfl, lb rfl, lb rfl⟩ (fun _ h => Ew_le (lb rfl) (s_X12_isWaiting (r2.2.1 (RH x0 13) r2.1.toNatClampNeg) r2.2 _ h)) (fun r3 => ?_)
      show Snd false none _ _ _ (cN iI) (99, [(4, .inl (r2.1)), (3, .inl (r1.1)), (0, .inr (.inr (x0))), (1, .inl (x1)), (2, .inl (x2))], [.inl (r3.1)], hp r3.2, 0, 0)
      refine T_if_ne 151 rfl rfl (fun _ => ?_) (fun _ => ?_)
      · refine T_loc (ls' := [(0, .inr (.inr (x0))), (1, .inl (x1)), (2, .inl (x2))]) [2, 3, 4] rfl ?_
        exact s_X12_load_151 x0 x1 x2 r3.2
      · refine T_go (S' := (105, [(4, .inl (r2.1)), (3, .inl (r1.1)), (0, .inr (.inr (x0))), (1, .inl (x1)), (2, .inl (x2))], [.inl (r2.1), .inr (.inr (x0))], hp r3.2, 0, 0)) 2 rfl ?_
        refine T_cv (i := iU) (as := [.inr (.inr (x0)), .inl (r2.1)]) (rest := []) (st := [.inl (r2.1), .inr (.inr (x0))]) rfl rfl rfl ⟨lb rfl, lb rfl, lb rfl, lb rfl⟩ (fun _ h => Ew_le (lb rfl) (s_X12_uses x0 r2.1 r3.2 _ h)) (fun _ r4 => ?_)
        show Snd false none _ _ _ (cN iI) (108, [(4, .inl (r2.1)), (3, .inl (r1.1)), (0, .inr (.inr (x0))), (1, .inl (x1)), (2, .inl (x2))], [], hp r4.2, 0, 0)
        refine T_go (S' := (109, [(4, .inl (r2.1)), (3, .inl (r1.1)), (0, .inr (.inr (x0))), (1, .inl (x1)), (2, .inl (x2))], [.inr (.inr (x0))], hp r4.2, 0, 0)) 1 rfl ?_
        refine T_getR rfl (fun _ => ?_)
        refine T_go (S' := (114, [(4, .inl (r2.1)), (3, .inl (r1.1)), (0, .inr (.inr (x0))), (1, .inl (x1)), (2, .inl (x2))], [.inl ((0 : Int32)), .inr (.inr ((RH x0 31))), .inl ((0 : Int32)), .inr (.inr ((RH x0 31)))], hp r4.2, 0, 0)) 2 rfl ?_
        refine T_iald rfl (fun _ => ?_)
        refine T_go (S' := (117, [(4, .inl (r2.1)), (3, .inl (r1.1)), (0, .inr (.inr (x0))), (1, .inl (x1)), (2, .inl (x2))], [.inl (((r4.2.1 (RH x0 31) (0 : Int32).toNatClampNeg) + (1 : Int32))), .inl ((0 : Int32)), .inr (.inr ((RH x0 31)))], hp r4.2, 0, 0)) 2 rfl ?_
        refine T_iast rfl (fun _ => ?_)
        refine T_let (Sf := fun σ5 => (118, [(4, .inl (r2.1)), (3, .inl (r1.1)), (0, .inr (.inr (x0))), (1, .inl (x1)), (2, .inl (x2))], [], hp σ5, 0, 0)) (fun σ5 => ?_)
        refine T_go (S' := (119, [(4, .inl (r2.1)), (3, .inl (r1.1)), (0, .inr (.inr (x0))), (1, .inl (x1)), (2, .inl (x2))], [.inr (.inr (x0))], hp σ5, 0, 0)) 1 rfl ?_
        refine T_getR rfl (fun _ => ?_)
        refine T_go (S' := (124, [(4, .inl (r2.1)), (3, .inl (r1.1)), (0, .inr (.inr (x0))), (1, .inl (x1)), (2, .inl (x2))], [.inl (x1), .inr (.inr ((RH x0 26))), .inl (x1), .inr (.inr ((RH x0 26)))], hp σ5, 0, 0)) 2 rfl ?_
        refine T_iald rfl (fun _ => ?_)
        refine T_go (S' := (126, [(4, .inl (r2.1)), (3, .inl (r1.1)), (0, .inr (.inr (x0))), (1, .inl (x1)), (2, .inl (x2))], [.inr (.inr (x0)), .inl ((σ5.1 (RH x0 26) x1.toNatClampNeg)), .inl (x1), .inr (.inr ((RH x0 26)))], hp σ5, 0, 0)) 1 rfl ?_
        refine T_getR rfl (fun _ => ?_)
        refine T_go (S' := (130, [(4, .inl (r2.1)), (3, .inl (r1.1)), (0, .inr (.inr (x0))), (1, .inl (x1)), (2, .inl (x2))], [.inl (x1), .inr (.inr ((RH x0 23))), .inl ((σ5.1 (RH x0 26) x1.toNatClampNeg)), .inl (x1), .inr (.inr ((RH x0 26)))], hp σ5, 0, 0)) 1 rfl ?_
        refine T_bald rfl (fun _ => ?_)
        refine T_if_eq 140 rfl rfl (fun _ => ?_) (fun _ => ?_)
        · refine T_go (S' := (141, [(4, .inl (r2.1)), (3, .inl (r1.1)), (0, .inr (.inr (x0))), (1, .inl (x1)), (2, .inl (x2))], [.inl ((0 : Int32)), .inl ((σ5.1 (RH x0 26) x1.toNatClampNeg)), .inl (x1), .inr (.inr ((RH x0 26)))], hp σ5, 0, 0)) 1 rfl ?_
          refine T_loc (ls' := [(0, .inr (.inr (x0))), (4, .inl (r2.1))]) [2, 0] rfl ?_
          exact s_X12_load_141 x0 r2.1 (RH x0 26) x1 (σ5.1 (RH x0 26) x1.toNatClampNeg) (0 : Int32) σ5
        · refine T_go (S' := (141, [(4, .inl (r2.1)), (3, .inl (r1.1)), (0, .inr (.inr (x0))), (1, .inl (x1)), (2, .inl (x2))], [.inl (((1 : Int32) <<< (x2 &&& 31))), .inl ((σ5.1 (RH x0 26) x1.toNatClampNeg)), .inl (x1), .inr (.inr ((RH x0 26)))], hp σ5, 0, 0)) 4 rfl ?_
          refine T_loc (ls' := [(0, .inr (.inr (x0))), (4, .inl (r2.1))]) [2, 0] rfl ?_
          exact s_X12_load_141 x0 r2.1 (RH x0 26) x1 (σ5.1 (RH x0 26) x1.toNatClampNeg) ((1 : Int32) <<< (x2 &&& 31)) σ5
  · refine T_go (S' := (74, [(3, .inl (r1.1)), (0, .inr (.inr (x0))), (1, .inl (x1)), (2, .inl (x2))], [.inl (r1.1)], hp r1.2, 0, 0)) 1 rfl ?_
    exact T_ret rfl
def f_X12_load (x0 : Nat) (x1 : Int32) (x2 : Int32) (σ : eMem) : Option (Int32 × eMem) :=
  if (KH x0).1 = 10 then
    Option.bind (f_X12_asksLine x0 x1 x2 σ) (fun r1 =>
      if ¬ r1.1 = (0 : Int32) then
        if (KH x0).1 = 10 then
          Option.bind (f_X12_isFull x0 x1 x2 r1.2) (fun r2 =>
            if r2.1 = (0 : Int32) then
              if (KH x0).1 = 10 then
                if (KH (RH x0 23)).1 = 13 ∧ eix x1 (KH (RH x0 23)).2 = true then
                  if (r2.2.1 (RH x0 23) x1.toNatClampNeg) = (0 : Int32) then
                    f_X12_load_61 x0 x1 x2 r2.2
                  else
                    if (KH x0).1 = 10 then
                      if (KH (RH x0 27)).1 = 11 ∧ eix x1 (KH (RH x0 27)).2 = true then
                        if ¬ (((r2.2.1 (RH x0 27) x1.toNatClampNeg) >>> (x2 &&& 31)) &&& (1 : Int32)) = (1 : Int32) then
                          f_X12_load_61 x0 x1 x2 r2.2
                        else
                          if (KH x0).1 = 10 then
                            if (KH (RH x0 28)).1 = 11 ∧ eix (((16 : Int32) * x1) + x2) (KH (RH x0 28)).2 = true then
                              some ((r2.2.1 (RH x0 28) (((16 : Int32) * x1) + x2).toNatClampNeg), r2.2)
                            else none
                          else none
                      else none
                    else none
                else none
              else none
            else
              if (KH x0).1 = 10 then
                Option.bind (f_X12_fails x0 (2 : Int32) r2.2) (fun r3 =>
                  some (r3.1, r3.2)
                  )
              else none
            )
        else none
      else
        some ((0 : Int32), r1.2)
      )
  else none
set_option maxHeartbeats 4000000 in
set_option maxRecDepth 20000 in
theorem s_X12_load (x0 : Nat) (x1 : Int32) (x2 : Int32) (σ : eMem) : ∀ r, f_X12_load x0 x1 x2 σ = some r → Ew false 4 166 [.inr (.inr (x0)), .inl (x1), .inl (x2)] (hp σ) (cN iI r) := by
  refine T_meth (md := m_X12_load) (d0 := 3) (cv := (cN iI)) rfl (lb rfl) (lb rfl) ?_
  unfold f_X12_load
  show Snd false none _ _ _ _ (0, [(0, .inr (.inr (x0))), (1, .inl (x1)), (2, .inl (x2))], [], hp σ, 0, 0)
  refine T_go (S' := (3, [(0, .inr (.inr (x0))), (1, .inl (x1)), (2, .inl (x2))], [.inl (x2), .inl (x1), .inr (.inr (x0))], hp σ, 0, 0)) 3 rfl ?_
  refine T_cv (i := iI) (as := [.inr (.inr (x0)), .inl (x1), .inl (x2)]) (rest := []) (st := [.inl (x2), .inl (x1), .inr (.inr (x0))]) rfl rfl rfl ⟨lb rfl, lb rfl, lb rfl, lb rfl⟩ (fun _ h => Ew_le (lb rfl) (s_X12_asksLine x0 x1 x2 σ _ h)) (fun _ r1 => ?_)
  show Snd false none _ _ _ (cN iI) (6, [(0, .inr (.inr (x0))), (1, .inl (x1)), (2, .inl (x2))], [.inl (r1.1)], hp r1.2, 0, 0)
  refine T_if_ne 11 rfl rfl (fun _ => ?_) (fun _ => ?_)
  · refine T_go (S' := (14, [(0, .inr (.inr (x0))), (1, .inl (x1)), (2, .inl (x2))], [.inl (x2), .inl (x1), .inr (.inr (x0))], hp r1.2, 0, 0)) 3 rfl ?_
    refine T_cv (i := iI) (as := [.inr (.inr (x0)), .inl (x1), .inl (x2)]) (rest := []) (st := [.inl (x2), .inl (x1), .inr (.inr (x0))]) rfl rfl rfl ⟨lb rfl, lb rfl, lb rfl, lb rfl⟩ (fun _ h => Ew_le (lb rfl) (s_X12_isFull x0 x1 x2 r1.2 _ h)) (fun _ r2 => ?_)
    show Snd false none _ _ _ (cN iI) (17, [(0, .inr (.inr (x0))), (1, .inl (x1)), (2, .inl (x2))], [.inl (r2.1)], hp r2.2, 0, 0)
    refine T_if_eq 26 rfl rfl (fun _ => ?_) (fun _ => ?_)
    · refine T_go (S' := (27, [(0, .inr (.inr (x0))), (1, .inl (x1)), (2, .inl (x2))], [.inr (.inr (x0))], hp r2.2, 0, 0)) 1 rfl ?_
      refine T_getR rfl (fun _ => ?_)
      refine T_go (S' := (31, [(0, .inr (.inr (x0))), (1, .inl (x1)), (2, .inl (x2))], [.inl (x1), .inr (.inr ((RH x0 23)))], hp r2.2, 0, 0)) 1 rfl ?_
      refine T_bald rfl (fun _ => ?_)
      refine T_if_eq 61 rfl rfl (fun _ => ?_) (fun _ => ?_)
      · refine T_loc (ls' := [(0, .inr (.inr (x0))), (1, .inl (x1)), (2, .inl (x2))]) [0, 1, 2] rfl ?_
        exact s_X12_load_61 x0 x1 x2 r2.2
      · refine T_go (S' := (36, [(0, .inr (.inr (x0))), (1, .inl (x1)), (2, .inl (x2))], [.inr (.inr (x0))], hp r2.2, 0, 0)) 1 rfl ?_
        refine T_getR rfl (fun _ => ?_)
        refine T_go (S' := (40, [(0, .inr (.inr (x0))), (1, .inl (x1)), (2, .inl (x2))], [.inl (x1), .inr (.inr ((RH x0 27)))], hp r2.2, 0, 0)) 1 rfl ?_
        refine T_iald rfl (fun _ => ?_)
        refine T_go (S' := (46, [(0, .inr (.inr (x0))), (1, .inl (x1)), (2, .inl (x2))], [.inl ((1 : Int32)), .inl ((((r2.2.1 (RH x0 27) x1.toNatClampNeg) >>> (x2 &&& 31)) &&& (1 : Int32)))], hp r2.2, 0, 0)) 5 rfl ?_
        refine T_icmp_ne 61 rfl rfl (fun _ => ?_) (fun _ => ?_)
        · refine T_loc (ls' := [(0, .inr (.inr (x0))), (1, .inl (x1)), (2, .inl (x2))]) [0, 1, 2] rfl ?_
          exact s_X12_load_61 x0 x1 x2 r2.2
        · refine T_go (S' := (50, [(0, .inr (.inr (x0))), (1, .inl (x1)), (2, .inl (x2))], [.inr (.inr (x0))], hp r2.2, 0, 0)) 1 rfl ?_
          refine T_getR rfl (fun _ => ?_)
          refine T_go (S' := (59, [(0, .inr (.inr (x0))), (1, .inl (x1)), (2, .inl (x2))], [.inl ((((16 : Int32) * x1) + x2)), .inr (.inr ((RH x0 28)))], hp r2.2, 0, 0)) 5 rfl ?_
          refine T_iald rfl (fun _ => ?_)
          exact T_ret rfl
    · refine T_go (S' := (22, [(0, .inr (.inr (x0))), (1, .inl (x1)), (2, .inl (x2))], [.inl ((2 : Int32)), .inr (.inr (x0))], hp r2.2, 0, 0)) 2 rfl ?_
      refine T_cv (i := iI) (as := [.inr (.inr (x0)), .inl ((2 : Int32))]) (rest := []) (st := [.inl ((2 : Int32)), .inr (.inr (x0))]) rfl rfl rfl ⟨lb rfl, lb rfl, lb rfl, lb rfl⟩ (fun _ h => Ew_le (lb rfl) (s_X12_fails x0 (2 : Int32) r2.2 _ h)) (fun _ r3 => ?_)
      show Snd false none _ _ _ (cN iI) (25, [(0, .inr (.inr (x0))), (1, .inl (x1)), (2, .inl (x2))], [.inl (r3.1)], hp r3.2, 0, 0)
      exact T_ret rfl
  · refine T_go (S' := (10, [(0, .inr (.inr (x0))), (1, .inl (x1)), (2, .inl (x2))], [.inl ((0 : Int32))], hp r1.2, 0, 0)) 1 rfl ?_
    exact T_ret rfl
def f_X12_store_22 (x0 : Nat) (σ : eMem) : Option (Int32 × eMem) :=
  if (KH x0).1 = 10 then
    Option.bind (f_X12_fails x0 (2 : Int32) σ) (fun r1 =>
      some (r1.1, r1.2)
      )
  else none
set_option maxHeartbeats 4000000 in
set_option maxRecDepth 20000 in
theorem s_X12_store_22 (x0 : Nat) (σ : eMem) : Snd false none 2 m_X12_store (f_X12_store_22 x0 σ) (cN iI) (22, [(0, .inr (.inr (x0)))], [], hp σ, 0, 0) := by
  unfold f_X12_store_22
  refine T_go (S' := (24, [(0, .inr (.inr (x0)))], [.inl ((2 : Int32)), .inr (.inr (x0))], hp σ, 0, 0)) 2 rfl ?_
  refine T_cv (i := iI) (as := [.inr (.inr (x0)), .inl ((2 : Int32))]) (rest := []) (st := [.inl ((2 : Int32)), .inr (.inr (x0))]) rfl rfl rfl ⟨lb rfl, lb rfl, lb rfl, lb rfl⟩ (fun _ h => Ew_le (lb rfl) (s_X12_fails x0 (2 : Int32) σ _ h)) (fun _ r1 => ?_)
  show Snd false none _ _ _ (cN iI) (27, [(0, .inr (.inr (x0)))], [.inl (r1.1)], hp r1.2, 0, 0)
  exact T_ret rfl
def f_X12_store (x0 : Nat) (x1 : Int32) (x2 : Int32) (x3 : Int32) (σ : eMem) : Option (Int32 × eMem) :=
  if (KH x0).1 = 10 then
    Option.bind (f_X12_asksLine x0 x1 x2 σ) (fun r1 =>
      if ¬ r1.1 = (0 : Int32) then
        if x3 < (0 : Int32) then
          f_X12_store_22 x0 r1.2
        else
          if x3 ≤ (999 : Int32) then
            if (KH x0).1 = 10 then
              if (KH (RH x0 23)).1 = 13 ∧ eix x1 (KH (RH x0 23)).2 = true then
                if (r1.2.1 (RH x0 23) x1.toNatClampNeg) = (0 : Int32) then
                  if (KH x0).1 = 10 then
                    if (KH (RH x0 20)).1 = 11 ∧ eix x1 (KH (RH x0 20)).2 = true then
                      if ¬ (r1.2.1 (RH x0 20) x1.toNatClampNeg) = (4 : Int32) then
                        if (KH x0).1 = 10 then
                          if (KH x0).1 = 10 then
                            if (KH (RH x0 20)).1 = 11 ∧ eix x1 (KH (RH x0 20)).2 = true then
                              if (KH (RH x0 21)).1 = 11 ∧ eix (((4 : Int32) * x1) + (r1.2.1 (RH x0 20) x1.toNatClampNeg)) (KH (RH x0 21)).2 = true then eLet ((eup r1.2.1 (RH x0 21) (((4 : Int32) * x1) + (r1.2.1 (RH x0 20) x1.toNatClampNeg)).toNatClampNeg x2, r1.2.2) : eMem) (fun σ2 =>
                                if (KH x0).1 = 10 then
                                  if (KH x0).1 = 10 then
                                    if (KH (RH x0 20)).1 = 11 ∧ eix x1 (KH (RH x0 20)).2 = true then
                                      if (KH (RH x0 22)).1 = 11 ∧ eix (((4 : Int32) * x1) + (σ2.1 (RH x0 20) x1.toNatClampNeg)) (KH (RH x0 22)).2 = true then eLet ((eup σ2.1 (RH x0 22) (((4 : Int32) * x1) + (σ2.1 (RH x0 20) x1.toNatClampNeg)).toNatClampNeg x3, σ2.2) : eMem) (fun σ3 =>
                                        if (KH x0).1 = 10 then
                                          if (KH (RH x0 20)).1 = 11 ∧ eix x1 (KH (RH x0 20)).2 = true then
                                            if (KH (RH x0 20)).1 = 11 ∧ eix x1 (KH (RH x0 20)).2 = true then eLet ((eup σ3.1 (RH x0 20) x1.toNatClampNeg ((σ3.1 (RH x0 20) x1.toNatClampNeg) + (1 : Int32)), σ3.2) : eMem) (fun σ4 =>
                                              if (KH x0).1 = 10 then
                                                if (KH (RH x0 20)).1 = 11 ∧ eix x1 (KH (RH x0 20)).2 = true then
                                                  some ((σ4.1 (RH x0 20) x1.toNatClampNeg), σ4)
                                                else none
                                              else none
                                              ) else none
                                          else none
                                        else none
                                        ) else none
                                    else none
                                  else none
                                else none
                                ) else none
                            else none
                          else none
                        else none
                      else
                        if (KH x0).1 = 10 then
                          Option.bind (f_X12_fails x0 (3 : Int32) r1.2) (fun r5 =>
                            some (r5.1, r5.2)
                            )
                        else none
                    else none
                  else none
                else
                  if (KH x0).1 = 10 then
                    Option.bind (f_X12_isFull x0 x1 x2 r1.2) (fun r6 =>
                      if r6.1 = (0 : Int32) then
                        if (KH x0).1 = 10 then
                          if (KH (RH x0 27)).1 = 11 ∧ eix x1 (KH (RH x0 27)).2 = true then
                            if (KH (RH x0 27)).1 = 11 ∧ eix x1 (KH (RH x0 27)).2 = true then eLet ((eup r6.2.1 (RH x0 27) x1.toNatClampNeg ((r6.2.1 (RH x0 27) x1.toNatClampNeg) ||| ((1 : Int32) <<< (x2 &&& 31))), r6.2.2) : eMem) (fun σ7 =>
                              if (KH x0).1 = 10 then
                                if (KH (RH x0 28)).1 = 11 ∧ eix (((16 : Int32) * x1) + x2) (KH (RH x0 28)).2 = true then eLet ((eup σ7.1 (RH x0 28) (((16 : Int32) * x1) + x2).toNatClampNeg x3, σ7.2) : eMem) (fun σ8 =>
                                  if (KH x0).1 = 10 then
                                    if (KH (RH x0 27)).1 = 11 ∧ eix x1 (KH (RH x0 27)).2 = true then
                                      Option.bind (f_X12_bits (σ8.1 (RH x0 27) x1.toNatClampNeg) σ8) (fun r9 =>
                                        some (r9.1, r9.2)
                                        )
                                    else none
                                  else none
                                  ) else none
                              else none
                              ) else none
                          else none
                        else none
                      else
                        if (KH x0).1 = 10 then
                          Option.bind (f_X12_fails x0 (3 : Int32) r6.2) (fun r10 =>
                            some (r10.1, r10.2)
                            )
                        else none
                      )
                  else none
              else none
            else none
          else
            f_X12_store_22 x0 r1.2
      else
        some ((0 : Int32), r1.2)
      )
  else none
set_option maxHeartbeats 4000000 in
set_option maxRecDepth 20000 in
theorem s_X12_store (x0 : Nat) (x1 : Int32) (x2 : Int32) (x3 : Int32) (σ : eMem) : ∀ r, f_X12_store x0 x1 x2 x3 σ = some r → Ew false 3 167 [.inr (.inr (x0)), .inl (x1), .inl (x2), .inl (x3)] (hp σ) (cN iI r) := by
  refine T_meth (md := m_X12_store) (d0 := 2) (cv := (cN iI)) rfl (lb rfl) (lb rfl) ?_
  unfold f_X12_store
  show Snd false none _ _ _ _ (0, [(0, .inr (.inr (x0))), (1, .inl (x1)), (2, .inl (x2)), (3, .inl (x3))], [], hp σ, 0, 0)
  refine T_go (S' := (3, [(0, .inr (.inr (x0))), (1, .inl (x1)), (2, .inl (x2)), (3, .inl (x3))], [.inl (x2), .inl (x1), .inr (.inr (x0))], hp σ, 0, 0)) 3 rfl ?_
  refine T_cv (i := iI) (as := [.inr (.inr (x0)), .inl (x1), .inl (x2)]) (rest := []) (st := [.inl (x2), .inl (x1), .inr (.inr (x0))]) rfl rfl rfl ⟨lb rfl, lb rfl, lb rfl, lb rfl⟩ (fun _ h => Ew_le (lb rfl) (s_X12_asksLine x0 x1 x2 σ _ h)) (fun _ r1 => ?_)
  show Snd false none _ _ _ (cN iI) (6, [(0, .inr (.inr (x0))), (1, .inl (x1)), (2, .inl (x2)), (3, .inl (x3))], [.inl (r1.1)], hp r1.2, 0, 0)
  refine T_if_ne 11 rfl rfl (fun _ => ?_) (fun _ => ?_)
  · refine T_go (S' := (12, [(0, .inr (.inr (x0))), (1, .inl (x1)), (2, .inl (x2)), (3, .inl (x3))], [.inl (x3)], hp r1.2, 0, 0)) 1 rfl ?_
    refine T_if_lt 22 rfl rfl (fun _ => ?_) (fun _ => ?_)
    · refine T_loc (ls' := [(0, .inr (.inr (x0)))]) [0] rfl ?_
      exact s_X12_store_22 x0 r1.2
    · refine T_go (S' := (19, [(0, .inr (.inr (x0))), (1, .inl (x1)), (2, .inl (x2)), (3, .inl (x3))], [.inl ((999 : Int32)), .inl (x3)], hp r1.2, 0, 0)) 2 rfl ?_
      refine T_icmp_le 28 rfl rfl (fun _ => ?_) (fun _ => ?_)
      · refine T_go (S' := (29, [(0, .inr (.inr (x0))), (1, .inl (x1)), (2, .inl (x2)), (3, .inl (x3))], [.inr (.inr (x0))], hp r1.2, 0, 0)) 1 rfl ?_
        refine T_getR rfl (fun _ => ?_)
        refine T_go (S' := (33, [(0, .inr (.inr (x0))), (1, .inl (x1)), (2, .inl (x2)), (3, .inl (x3))], [.inl (x1), .inr (.inr ((RH x0 23)))], hp r1.2, 0, 0)) 1 rfl ?_
        refine T_bald rfl (fun _ => ?_)
        refine T_if_eq 86 rfl rfl (fun _ => ?_) (fun _ => ?_)
        · refine T_go (S' := (87, [(0, .inr (.inr (x0))), (1, .inl (x1)), (2, .inl (x2)), (3, .inl (x3))], [.inr (.inr (x0))], hp r1.2, 0, 0)) 1 rfl ?_
          refine T_getR rfl (fun _ => ?_)
          refine T_go (S' := (91, [(0, .inr (.inr (x0))), (1, .inl (x1)), (2, .inl (x2)), (3, .inl (x3))], [.inl (x1), .inr (.inr ((RH x0 20)))], hp r1.2, 0, 0)) 1 rfl ?_
          refine T_iald rfl (fun _ => ?_)
          refine T_go (S' := (93, [(0, .inr (.inr (x0))), (1, .inl (x1)), (2, .inl (x2)), (3, .inl (x3))], [.inl ((4 : Int32)), .inl ((r1.2.1 (RH x0 20) x1.toNatClampNeg))], hp r1.2, 0, 0)) 1 rfl ?_
          refine T_icmp_ne 102 rfl rfl (fun _ => ?_) (fun _ => ?_)
          · refine T_go (S' := (103, [(0, .inr (.inr (x0))), (1, .inl (x1)), (2, .inl (x2)), (3, .inl (x3))], [.inr (.inr (x0))], hp r1.2, 0, 0)) 1 rfl ?_
            refine T_getR rfl (fun _ => ?_)
            refine T_go (S' := (110, [(0, .inr (.inr (x0))), (1, .inl (x1)), (2, .inl (x2)), (3, .inl (x3))], [.inr (.inr (x0)), .inl (((4 : Int32) * x1)), .inr (.inr ((RH x0 21)))], hp r1.2, 0, 0)) 4 rfl ?_
            refine T_getR rfl (fun _ => ?_)
            refine T_go (S' := (114, [(0, .inr (.inr (x0))), (1, .inl (x1)), (2, .inl (x2)), (3, .inl (x3))], [.inl (x1), .inr (.inr ((RH x0 20))), .inl (((4 : Int32) * x1)), .inr (.inr ((RH x0 21)))], hp r1.2, 0, 0)) 1 rfl ?_
            refine T_iald rfl (fun _ => ?_)
            refine T_go (S' := (117, [(0, .inr (.inr (x0))), (1, .inl (x1)), (2, .inl (x2)), (3, .inl (x3))], [.inl (x2), .inl ((((4 : Int32) * x1) + (r1.2.1 (RH x0 20) x1.toNatClampNeg))), .inr (.inr ((RH x0 21)))], hp r1.2, 0, 0)) 2 rfl ?_
            refine T_iast rfl (fun _ => ?_)
            refine T_let (Sf := fun σ2 => (118, [(0, .inr (.inr (x0))), (1, .inl (x1)), (2, .inl (x2)), (3, .inl (x3))], [], hp σ2, 0, 0)) (fun σ2 => ?_)
            refine T_go (S' := (119, [(0, .inr (.inr (x0))), (1, .inl (x1)), (2, .inl (x2)), (3, .inl (x3))], [.inr (.inr (x0))], hp σ2, 0, 0)) 1 rfl ?_
            refine T_getR rfl (fun _ => ?_)
            refine T_go (S' := (126, [(0, .inr (.inr (x0))), (1, .inl (x1)), (2, .inl (x2)), (3, .inl (x3))], [.inr (.inr (x0)), .inl (((4 : Int32) * x1)), .inr (.inr ((RH x0 22)))], hp σ2, 0, 0)) 4 rfl ?_
            refine T_getR rfl (fun _ => ?_)
            refine T_go (S' := (130, [(0, .inr (.inr (x0))), (1, .inl (x1)), (2, .inl (x2)), (3, .inl (x3))], [.inl (x1), .inr (.inr ((RH x0 20))), .inl (((4 : Int32) * x1)), .inr (.inr ((RH x0 22)))], hp σ2, 0, 0)) 1 rfl ?_
            refine T_iald rfl (fun _ => ?_)
            refine T_go (S' := (133, [(0, .inr (.inr (x0))), (1, .inl (x1)), (2, .inl (x2)), (3, .inl (x3))], [.inl (x3), .inl ((((4 : Int32) * x1) + (σ2.1 (RH x0 20) x1.toNatClampNeg))), .inr (.inr ((RH x0 22)))], hp σ2, 0, 0)) 2 rfl ?_
            refine T_iast rfl (fun _ => ?_)
            refine T_let (Sf := fun σ3 => (134, [(0, .inr (.inr (x0))), (1, .inl (x1)), (2, .inl (x2)), (3, .inl (x3))], [], hp σ3, 0, 0)) (fun σ3 => ?_)
            refine T_go (S' := (135, [(0, .inr (.inr (x0))), (1, .inl (x1)), (2, .inl (x2)), (3, .inl (x3))], [.inr (.inr (x0))], hp σ3, 0, 0)) 1 rfl ?_
            refine T_getR rfl (fun _ => ?_)
            refine T_go (S' := (140, [(0, .inr (.inr (x0))), (1, .inl (x1)), (2, .inl (x2)), (3, .inl (x3))], [.inl (x1), .inr (.inr ((RH x0 20))), .inl (x1), .inr (.inr ((RH x0 20)))], hp σ3, 0, 0)) 2 rfl ?_
            refine T_iald rfl (fun _ => ?_)
            refine T_go (S' := (143, [(0, .inr (.inr (x0))), (1, .inl (x1)), (2, .inl (x2)), (3, .inl (x3))], [.inl (((σ3.1 (RH x0 20) x1.toNatClampNeg) + (1 : Int32))), .inl (x1), .inr (.inr ((RH x0 20)))], hp σ3, 0, 0)) 2 rfl ?_
            refine T_iast rfl (fun _ => ?_)
            refine T_let (Sf := fun σ4 => (144, [(0, .inr (.inr (x0))), (1, .inl (x1)), (2, .inl (x2)), (3, .inl (x3))], [], hp σ4, 0, 0)) (fun σ4 => ?_)
            refine T_go (S' := (145, [(0, .inr (.inr (x0))), (1, .inl (x1)), (2, .inl (x2)), (3, .inl (x3))], [.inr (.inr (x0))], hp σ4, 0, 0)) 1 rfl ?_
            refine T_getR rfl (fun _ => ?_)
            refine T_go (S' := (149, [(0, .inr (.inr (x0))), (1, .inl (x1)), (2, .inl (x2)), (3, .inl (x3))], [.inl (x1), .inr (.inr ((RH x0 20)))], hp σ4, 0, 0)) 1 rfl ?_
            refine T_iald rfl (fun _ => ?_)
            exact T_ret rfl
          · refine T_go (S' := (98, [(0, .inr (.inr (x0))), (1, .inl (x1)), (2, .inl (x2)), (3, .inl (x3))], [.inl ((3 : Int32)), .inr (.inr (x0))], hp r1.2, 0, 0)) 2 rfl ?_
            refine T_cv (i := iI) (as := [.inr (.inr (x0)), .inl ((3 : Int32))]) (rest := []) (st := [.inl ((3 : Int32)), .inr (.inr (x0))]) rfl rfl rfl ⟨lb rfl, lb rfl, lb rfl, lb rfl⟩ (fun _ h => Ew_le (lb rfl) (s_X12_fails x0 (3 : Int32) r1.2 _ h)) (fun _ r5 => ?_)
            show Snd false none _ _ _ (cN iI) (101, [(0, .inr (.inr (x0))), (1, .inl (x1)), (2, .inl (x2)), (3, .inl (x3))], [.inl (r5.1)], hp r5.2, 0, 0)
            exact T_ret rfl
        · refine T_go (S' := (40, [(0, .inr (.inr (x0))), (1, .inl (x1)), (2, .inl (x2)), (3, .inl (x3))], [.inl (x2), .inl (x1), .inr (.inr (x0))], hp r1.2, 0, 0)) 3 rfl ?_
          refine T_cv (i := iI) (as := [.inr (.inr (x0)), .inl (x1), .inl (x2)]) (rest := []) (st := [.inl (x2), .inl (x1), .inr (.inr (x0))]) rfl rfl rfl ⟨lb rfl, lb rfl, lb rfl, lb rfl⟩ (fun _ h => Ew_le (lb rfl) (s_X12_isFull x0 x1 x2 r1.2 _ h)) (fun _ r6 => ?_)
          show Snd false none _ _ _ (cN iI) (43, [(0, .inr (.inr (x0))), (1, .inl (x1)), (2, .inl (x2)), (3, .inl (x3))], [.inl (r6.1)], hp r6.2, 0, 0)
          refine T_if_eq 52 rfl rfl (fun _ => ?_) (fun _ => ?_)
          · refine T_go (S' := (53, [(0, .inr (.inr (x0))), (1, .inl (x1)), (2, .inl (x2)), (3, .inl (x3))], [.inr (.inr (x0))], hp r6.2, 0, 0)) 1 rfl ?_
            refine T_getR rfl (fun _ => ?_)
            refine T_go (S' := (58, [(0, .inr (.inr (x0))), (1, .inl (x1)), (2, .inl (x2)), (3, .inl (x3))], [.inl (x1), .inr (.inr ((RH x0 27))), .inl (x1), .inr (.inr ((RH x0 27)))], hp r6.2, 0, 0)) 2 rfl ?_
            refine T_iald rfl (fun _ => ?_)
            refine T_go (S' := (63, [(0, .inr (.inr (x0))), (1, .inl (x1)), (2, .inl (x2)), (3, .inl (x3))], [.inl (((r6.2.1 (RH x0 27) x1.toNatClampNeg) ||| ((1 : Int32) <<< (x2 &&& 31)))), .inl (x1), .inr (.inr ((RH x0 27)))], hp r6.2, 0, 0)) 4 rfl ?_
            refine T_iast rfl (fun _ => ?_)
            refine T_let (Sf := fun σ7 => (64, [(0, .inr (.inr (x0))), (1, .inl (x1)), (2, .inl (x2)), (3, .inl (x3))], [], hp σ7, 0, 0)) (fun σ7 => ?_)
            refine T_go (S' := (65, [(0, .inr (.inr (x0))), (1, .inl (x1)), (2, .inl (x2)), (3, .inl (x3))], [.inr (.inr (x0))], hp σ7, 0, 0)) 1 rfl ?_
            refine T_getR rfl (fun _ => ?_)
            refine T_go (S' := (75, [(0, .inr (.inr (x0))), (1, .inl (x1)), (2, .inl (x2)), (3, .inl (x3))], [.inl (x3), .inl ((((16 : Int32) * x1) + x2)), .inr (.inr ((RH x0 28)))], hp σ7, 0, 0)) 6 rfl ?_
            refine T_iast rfl (fun _ => ?_)
            refine T_let (Sf := fun σ8 => (76, [(0, .inr (.inr (x0))), (1, .inl (x1)), (2, .inl (x2)), (3, .inl (x3))], [], hp σ8, 0, 0)) (fun σ8 => ?_)
            refine T_go (S' := (77, [(0, .inr (.inr (x0))), (1, .inl (x1)), (2, .inl (x2)), (3, .inl (x3))], [.inr (.inr (x0))], hp σ8, 0, 0)) 1 rfl ?_
            refine T_getR rfl (fun _ => ?_)
            refine T_go (S' := (81, [(0, .inr (.inr (x0))), (1, .inl (x1)), (2, .inl (x2)), (3, .inl (x3))], [.inl (x1), .inr (.inr ((RH x0 27)))], hp σ8, 0, 0)) 1 rfl ?_
            refine T_iald rfl (fun _ => ?_)
            refine T_cs (i := iI) (as := [.inl ((σ8.1 (RH x0 27) x1.toNatClampNeg))]) (rest := []) (st := [.inl ((σ8.1 (RH x0 27) x1.toNatClampNeg))]) rfl (lb rfl) rfl rfl ⟨lb rfl, lb rfl, lb rfl, lb rfl⟩ (fun _ h => Ew_le (lb rfl) (s_X12_bits (σ8.1 (RH x0 27) x1.toNatClampNeg) σ8 _ h)) (fun r9 => ?_)
            show Snd false none _ _ _ (cN iI) (85, [(0, .inr (.inr (x0))), (1, .inl (x1)), (2, .inl (x2)), (3, .inl (x3))], [.inl (r9.1)], hp r9.2, 0, 0)
            exact T_ret rfl
          · refine T_go (S' := (48, [(0, .inr (.inr (x0))), (1, .inl (x1)), (2, .inl (x2)), (3, .inl (x3))], [.inl ((3 : Int32)), .inr (.inr (x0))], hp r6.2, 0, 0)) 2 rfl ?_
            refine T_cv (i := iI) (as := [.inr (.inr (x0)), .inl ((3 : Int32))]) (rest := []) (st := [.inl ((3 : Int32)), .inr (.inr (x0))]) rfl rfl rfl ⟨lb rfl, lb rfl, lb rfl, lb rfl⟩ (fun _ h => Ew_le (lb rfl) (s_X12_fails x0 (3 : Int32) r6.2 _ h)) (fun _ r10 => ?_)
            show Snd false none _ _ _ (cN iI) (51, [(0, .inr (.inr (x0))), (1, .inl (x1)), (2, .inl (x2)), (3, .inl (x3))], [.inl (r10.1)], hp r10.2, 0, 0)
            exact T_ret rfl
      · refine T_loc (ls' := [(0, .inr (.inr (x0)))]) [0] rfl ?_
        exact s_X12_store_22 x0 r1.2
  · refine T_go (S' := (10, [(0, .inr (.inr (x0))), (1, .inl (x1)), (2, .inl (x2)), (3, .inl (x3))], [.inl ((0 : Int32))], hp r1.2, 0, 0)) 1 rfl ?_
    exact T_ret rfl
def f_X12_changes (x0 : Nat) (x1 : Int32) (x2 : Int32) (σ : eMem) : Option (Unit × eMem) :=
  if (KH x0).1 = 10 then
    if (KH (RH x0 13)).1 = 11 ∧ eix x1 (KH (RH x0 13)).2 = true then eLet ((eup σ.1 (RH x0 13) x1.toNatClampNeg (3 : Int32), σ.2) : eMem) (fun σ1 =>
      if (KH x0).1 = 10 then
        if (KH (RH x0 14)).1 = 11 ∧ eix x1 (KH (RH x0 14)).2 = true then eLet ((eup σ1.1 (RH x0 14) x1.toNatClampNeg x2, σ1.2) : eMem) (fun σ2 =>
          if (KH x0).1 = 10 then
            Option.bind (f_X12_uses x0 x1 σ2) (fun r3 =>
              some ((), r3.2)
              )
          else none
          ) else none
      else none
      ) else none
  else none
set_option maxHeartbeats 4000000 in
set_option maxRecDepth 20000 in
theorem s_X12_changes (x0 : Nat) (x1 : Int32) (x2 : Int32) (σ : eMem) : ∀ r, f_X12_changes x0 x1 x2 σ = some r → Ew false 2 168 [.inr (.inr (x0)), .inl (x1), .inl (x2)] (hp σ) (cN iU r) := by
  refine T_meth (md := m_X12_changes) (d0 := 1) (cv := (cN iU)) rfl (lb rfl) (lb rfl) ?_
  unfold f_X12_changes
  show Snd false none _ _ _ _ (0, [(0, .inr (.inr (x0))), (1, .inl (x1)), (2, .inl (x2))], [], hp σ, 0, 0)
  refine T_go (S' := (1, [(0, .inr (.inr (x0))), (1, .inl (x1)), (2, .inl (x2))], [.inr (.inr (x0))], hp σ, 0, 0)) 1 rfl ?_
  refine T_getR rfl (fun _ => ?_)
  refine T_go (S' := (6, [(0, .inr (.inr (x0))), (1, .inl (x1)), (2, .inl (x2))], [.inl ((3 : Int32)), .inl (x1), .inr (.inr ((RH x0 13)))], hp σ, 0, 0)) 2 rfl ?_
  refine T_iast rfl (fun _ => ?_)
  refine T_let (Sf := fun σ1 => (7, [(0, .inr (.inr (x0))), (1, .inl (x1)), (2, .inl (x2))], [], hp σ1, 0, 0)) (fun σ1 => ?_)
  refine T_go (S' := (8, [(0, .inr (.inr (x0))), (1, .inl (x1)), (2, .inl (x2))], [.inr (.inr (x0))], hp σ1, 0, 0)) 1 rfl ?_
  refine T_getR rfl (fun _ => ?_)
  refine T_go (S' := (13, [(0, .inr (.inr (x0))), (1, .inl (x1)), (2, .inl (x2))], [.inl (x2), .inl (x1), .inr (.inr ((RH x0 14)))], hp σ1, 0, 0)) 2 rfl ?_
  refine T_iast rfl (fun _ => ?_)
  refine T_let (Sf := fun σ2 => (14, [(0, .inr (.inr (x0))), (1, .inl (x1)), (2, .inl (x2))], [], hp σ2, 0, 0)) (fun σ2 => ?_)
  refine T_go (S' := (16, [(0, .inr (.inr (x0))), (1, .inl (x1)), (2, .inl (x2))], [.inl (x1), .inr (.inr (x0))], hp σ2, 0, 0)) 2 rfl ?_
  refine T_cv (i := iU) (as := [.inr (.inr (x0)), .inl (x1)]) (rest := []) (st := [.inl (x1), .inr (.inr (x0))]) rfl rfl rfl ⟨lb rfl, lb rfl, lb rfl, lb rfl⟩ (fun _ h => Ew_le (lb rfl) (s_X12_uses x0 x1 σ2 _ h)) (fun _ r3 => ?_)
  show Snd false none _ _ _ (cN iU) (19, [(0, .inr (.inr (x0))), (1, .inl (x1)), (2, .inl (x2))], [], hp r3.2, 0, 0)
  exact T_ret rfl
