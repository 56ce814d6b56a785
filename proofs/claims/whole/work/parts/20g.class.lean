/-! what the methods do -/
def f_X9_explore_248 (rec : Nat → Nat → Int32 → Int64 → Int32 → Int32 → eMem → Option (Unit × eMem))  (σ : eMem) : Option (Unit × eMem) :=
  some ((), σ)
set_option maxHeartbeats 4000000 in
set_option maxRecDepth 20000 in
theorem s_X9_explore_248 (rec : Nat → Nat → Int32 → Int64 → Int32 → Int32 → eMem → Option (Unit × eMem)) (dd : Nat) (hd : 3 ≤ dd) (hrec : ∀ (x0 : Nat) (x1 : Nat) (x2 : Int32) (x3 : Int64) (x5 : Int32) (x6 : Int32) (σ : eMem) r, rec x0 x1 x2 x3 x5 x6 σ = some r → Ew false dd 82 [.inr (.inr (x0)), .inr (.inr (x1)), .inl (x2), .inr (.inl (x3)), .inl (x5), .inl (x6)] (hp σ) ((cN iU) r))  (σ : eMem) : Snd false none dd m_X9_explore (f_X9_explore_248 rec σ) (cN iU) (248, [], [], hp σ, 0, 0) := by
  unfold f_X9_explore_248
  exact T_ret rfl
def f_X9_explore_L71 (rec : Nat → Nat → Int32 → Int64 → Int32 → Int32 → eMem → Option (Unit × eMem)) : Nat → (Nat × Nat × Int32 × Int64 × Int32 × Int32 × Int32 × Int32 ⊕ (Nat × Nat × Int32 × Int64 × Int32 × Int32 × Int32 × Int32 × Int32 ⊕ (Nat × Nat × Int32 × Int64 × Int32 × Int32 × Int32 × Int32 × Int32 ⊕ (Nat × Nat × Int32 × Int64 × Int32 × Int32 × Int32 × Int32 ⊕ (Nat × Nat × Int32 × Int64 × Int32 × Int32 × Int32 × Int32))))) → eMem → Option (Unit × eMem)
  | 0, _, _ => none
  | n + 1, .inl (x0, x1, x2, x3, x5, x6, x8, x9), σ =>
    if (3 : Int32) ≤ x9 then
      if x8 = (0 : Int32) then
        f_X9_explore_248 rec  σ
      else
        if (KH x1).1 = 5 then
          Option.bind (f_X6_include x1 x5 σ) (fun r1 =>
            f_X9_explore_248 rec  r1.2
            )
        else none
    else
      if ¬ x2 = (1 : Int32) then
        f_X9_explore_L71 rec n (.inr (.inl (x0, x1, x2, x3, x5, x6, x8, x9, (-1 : Int32)))) σ
      else
        Option.bind (f_X9_oldestBuffered x0 x3 x9 σ) (fun r2 =>
          f_X9_explore_L71 rec n (.inr (.inl (x0, x1, x2, x3, x5, x6, x8, x9, r2.1))) r2.2
          )
  | n + 1, .inr (.inl (x0, x1, x2, x3, x5, x6, x8, x9, s0)), σ =>
    if s0 = (-1 : Int32) then
      f_X9_explore_L71 rec n (.inr (.inr (.inl (x0, x1, x2, x3, x5, x6, x8, x9, s0)))) σ
    else
      if (KH x0).1 = 7 then
        if (KH (RH x0 1)).1 = 11 ∧ eix s0 (KH (RH x0 1)).2 = true then
          if (KH x0).1 = 7 then
            if (KH (RH x0 2)).1 = 11 ∧ eix s0 (KH (RH x0 2)).2 = true then
              Option.bind (f_X9_with x3 ((6 : Int32) + (σ.1 (RH x0 1) s0.toNatClampNeg)) (σ.1 (RH x0 2) s0.toNatClampNeg) σ) (fun r1 =>
                if ¬ (4 : Int32) = 0 then
                  Option.bind (f_X9_with r1.1 ((3 : Int32) + x9) ((s0 - s0 / (4 : Int32) * (4 : Int32)) + (1 : Int32)) r1.2) (fun r2 =>
                    Option.bind (rec x0 x1 x2 r2.1 x5 (x6 + (1 : Int32)) r2.2) (fun r3 =>
                      f_X9_explore_L71 rec n (.inr (.inr (.inl (x0, x1, x2, x3, x5, x6, (0 : Int32), x9, s0)))) r3.2
                      )
                    )
                else none
                )
            else none
          else none
        else none
      else none
  | n + 1, .inr (.inr (.inl (x0, x1, x2, x3, x5, x6, x8, x9, x10))), σ =>
    Option.bind (f_X9_nextSlot x0 x3 x9 σ) (fun r1 =>
      if r1.1 = (-1 : Int32) then
        f_X9_explore_L71 rec n (.inr (.inr (.inr (.inr ((x0, x1, x2, x3, x5, x6, x8, x9)))))) r1.2
      else
        if x10 = (-1 : Int32) then
          f_X9_explore_L71 rec n (.inr (.inr (.inr (.inl (x0, x1, x2, x3, x5, x6, x9, r1.1))))) r1.2
        else
          if (KH x0).1 = 7 then
            if (KH (RH x0 0)).1 = 11 ∧ eix r1.1 (KH (RH x0 0)).2 = true then
              if ¬ (r1.2.1 (RH x0 0) r1.1.toNatClampNeg) = (1 : Int32) then
                f_X9_explore_L71 rec n (.inr (.inr (.inr (.inr ((x0, x1, x2, x3, x5, x6, x8, x9)))))) r1.2
              else
                f_X9_explore_L71 rec n (.inr (.inr (.inr (.inl (x0, x1, x2, x3, x5, x6, x9, r1.1))))) r1.2
            else none
          else none
      )
  | n + 1, .inr (.inr (.inr (.inl (x0, x1, x2, x3, x5, x6, x9, x11)))), σ =>
    Option.bind (f_X9_resultOf x0 x2 x3 x11 σ) (fun r1 =>
      if (KH x0).1 = 7 then
        Option.bind (f_X8_told x0 x11 r1.1 r1.2) (fun r2 =>
          Option.bind (f_X9_after x0 x3 x11 r2.2) (fun r3 =>
            Option.bind (rec x0 x1 x2 r3.1 (x5 + r2.1) (x6 + (1 : Int32)) r3.2) (fun r4 =>
              f_X9_explore_L71 rec n (.inr (.inr (.inr (.inr ((x0, x1, x2, x3, x5, x6, (0 : Int32), x9)))))) r4.2
              )
            )
          )
      else none
      )
  | n + 1, .inr (.inr (.inr (.inr ((x0, x1, x2, x3, x5, x6, x8, x9))))), σ =>
    f_X9_explore_L71 rec n (.inl (x0, x1, x2, x3, x5, x6, x8, (x9 + (1 : Int32)))) σ
set_option maxHeartbeats 4000000 in
set_option maxRecDepth 20000 in
theorem s_X9_explore_L71 (rec : Nat → Nat → Int32 → Int64 → Int32 → Int32 → eMem → Option (Unit × eMem)) (dd : Nat) (hd : 3 ≤ dd) (hrec : ∀ (x0 : Nat) (x1 : Nat) (x2 : Int32) (x3 : Int64) (x5 : Int32) (x6 : Int32) (σ : eMem) r, rec x0 x1 x2 x3 x5 x6 σ = some r → Ew false dd 82 [.inr (.inr (x0)), .inr (.inr (x1)), .inl (x2), .inr (.inl (x3)), .inl (x5), .inl (x6)] (hp σ) ((cN iU) r)) : ∀ (n : Nat), (∀ (x0 : Nat) (x1 : Nat) (x2 : Int32) (x3 : Int64) (x5 : Int32) (x6 : Int32) (x8 : Int32) (x9 : Int32) (σ : eMem), Snd false none dd m_X9_explore (f_X9_explore_L71 rec n (.inl (x0, x1, x2, x3, x5, x6, x8, x9)) σ) (cN iU) (71, [(0, .inr (.inr (x0))), (1, .inr (.inr (x1))), (2, .inl (x2)), (3, .inr (.inl (x3))), (5, .inl (x5)), (6, .inl (x6)), (8, .inl (x8)), (9, .inl (x9))], [], hp σ, 0, 0)) ∧ (∀ (x0 : Nat) (x1 : Nat) (x2 : Int32) (x3 : Int64) (x5 : Int32) (x6 : Int32) (x8 : Int32) (x9 : Int32) (s0 : Int32) (σ : eMem), Snd false none dd m_X9_explore (f_X9_explore_L71 rec n (.inr (.inl (x0, x1, x2, x3, x5, x6, x8, x9, s0))) σ) (cN iU) (93, [(0, .inr (.inr (x0))), (1, .inr (.inr (x1))), (2, .inl (x2)), (3, .inr (.inl (x3))), (5, .inl (x5)), (6, .inl (x6)), (8, .inl (x8)), (9, .inl (x9))], [.inl (s0)], hp σ, 0, 0)) ∧ (∀ (x0 : Nat) (x1 : Nat) (x2 : Int32) (x3 : Int64) (x5 : Int32) (x6 : Int32) (x8 : Int32) (x9 : Int32) (x10 : Int32) (σ : eMem), Snd false none dd m_X9_explore (f_X9_explore_L71 rec n (.inr (.inr (.inl (x0, x1, x2, x3, x5, x6, x8, x9, x10)))) σ) (cN iU) (158, [(0, .inr (.inr (x0))), (1, .inr (.inr (x1))), (2, .inl (x2)), (3, .inr (.inl (x3))), (5, .inl (x5)), (6, .inl (x6)), (8, .inl (x8)), (9, .inl (x9)), (10, .inl (x10))], [], hp σ, 0, 0)) ∧ (∀ (x0 : Nat) (x1 : Nat) (x2 : Int32) (x3 : Int64) (x5 : Int32) (x6 : Int32) (x9 : Int32) (x11 : Int32) (σ : eMem), Snd false none dd m_X9_explore (f_X9_explore_L71 rec n (.inr (.inr (.inr (.inl (x0, x1, x2, x3, x5, x6, x9, x11))))) σ) (cN iU) (190, [(0, .inr (.inr (x0))), (1, .inr (.inr (x1))), (2, .inl (x2)), (3, .inr (.inl (x3))), (5, .inl (x5)), (6, .inl (x6)), (9, .inl (x9)), (11, .inl (x11))], [], hp σ, 0, 0)) ∧ (∀ (x0 : Nat) (x1 : Nat) (x2 : Int32) (x3 : Int64) (x5 : Int32) (x6 : Int32) (x8 : Int32) (x9 : Int32) (σ : eMem), Snd false none dd m_X9_explore (f_X9_explore_L71 rec n (.inr (.inr (.inr (.inr ((x0, x1, x2, x3, x5, x6, x8, x9)))))) σ) (cN iU) (231, [(0, .inr (.inr (x0))), (1, .inr (.inr (x1))), (2, .inl (x2)), (3, .inr (.inl (x3))), (5, .inl (x5)), (6, .inl (x6)), (8, .inl (x8)), (9, .inl (x9))], [], hp σ, 0, 0)) := by
  intro n
  induction n with
  | zero => exact ⟨fun _ _ _ _ _ _ _ _ _ => T_none, fun _ _ _ _ _ _ _ _ _ _ => T_none, fun _ _ _ _ _ _ _ _ _ _ => T_none, fun _ _ _ _ _ _ _ _ _ => T_none, fun _ _ _ _ _ _ _ _ _ => T_none⟩
  | succ n ih =>
    refine ⟨?_, ?_, ?_, ?_, ?_⟩
    · intro x0 x1 x2 x3 x5 x6 x8 x9 σ
      unfold f_X9_explore_L71
      refine T_go (S' := (74, [(0, .inr (.inr (x0))), (1, .inr (.inr (x1))), (2, .inl (x2)), (3, .inr (.inl (x3))), (5, .inl (x5)), (6, .inl (x6)), (8, .inl (x8)), (9, .inl (x9))], [.inl ((3 : Int32)), .inl (x9)], hp σ, 0, 0)) 2 rfl ?_
      refine T_icmp_ge 237 rfl rfl (fun _ => ?_) (fun _ => ?_)
      · refine T_go (S' := (239, [(0, .inr (.inr (x0))), (1, .inr (.inr (x1))), (2, .inl (x2)), (3, .inr (.inl (x3))), (5, .inl (x5)), (6, .inl (x6)), (8, .inl (x8)), (9, .inl (x9))], [.inl (x8)], hp σ, 0, 0)) 1 rfl ?_
        refine T_if_eq 248 rfl rfl (fun _ => ?_) (fun _ => ?_)
        · refine T_loc (ls' := []) [] rfl ?_
          exact s_X9_explore_248 rec dd hd hrec  σ
        · refine T_go (S' := (245, [(0, .inr (.inr (x0))), (1, .inr (.inr (x1))), (2, .inl (x2)), (3, .inr (.inl (x3))), (5, .inl (x5)), (6, .inl (x6)), (8, .inl (x8)), (9, .inl (x9))], [.inl (x5), .inr (.inr (x1))], hp σ, 0, 0)) 2 rfl ?_
          refine T_cv (i := iU) (as := [.inr (.inr (x1)), .inl (x5)]) (rest := []) (st := [.inl (x5), .inr (.inr (x1))]) rfl rfl rfl ⟨lb rfl, lb rfl, lb rfl, lb rfl⟩ (fun _ h => Ew_le (Nat.le_trans (lb rfl) hd) (s_X6_include x1 x5 σ _ h)) (fun _ r1 => ?_)
          show Snd false none _ _ _ (cN iU) (248, [(0, .inr (.inr (x0))), (1, .inr (.inr (x1))), (2, .inl (x2)), (3, .inr (.inl (x3))), (5, .inl (x5)), (6, .inl (x6)), (8, .inl (x8)), (9, .inl (x9))], [], hp r1.2, 0, 0)
          refine T_loc (ls' := []) [] rfl ?_
          exact s_X9_explore_248 rec dd hd hrec  r1.2
      · refine T_go (S' := (79, [(0, .inr (.inr (x0))), (1, .inr (.inr (x1))), (2, .inl (x2)), (3, .inr (.inl (x3))), (5, .inl (x5)), (6, .inl (x6)), (8, .inl (x8)), (9, .inl (x9))], [.inl ((1 : Int32)), .inl (x2)], hp σ, 0, 0)) 2 rfl ?_
        refine T_icmp_ne 92 rfl rfl (fun _ => ?_) (fun _ => ?_)
        · refine T_go (S' := (93, [(0, .inr (.inr (x0))), (1, .inr (.inr (x1))), (2, .inl (x2)), (3, .inr (.inl (x3))), (5, .inl (x5)), (6, .inl (x6)), (8, .inl (x8)), (9, .inl (x9))], [.inl ((-1 : Int32))], hp σ, 0, 0)) 1 rfl ?_
          refine T_loc (ls' := [(0, .inr (.inr (x0))), (1, .inr (.inr (x1))), (2, .inl (x2)), (3, .inr (.inl (x3))), (5, .inl (x5)), (6, .inl (x6)), (8, .inl (x8)), (9, .inl (x9))]) [0, 1, 2, 3, 4, 5, 6, 7] rfl ?_
          exact (ih.2.1) x0 x1 x2 x3 x5 x6 x8 x9 (-1 : Int32) σ
        · refine T_go (S' := (86, [(0, .inr (.inr (x0))), (1, .inr (.inr (x1))), (2, .inl (x2)), (3, .inr (.inl (x3))), (5, .inl (x5)), (6, .inl (x6)), (8, .inl (x8)), (9, .inl (x9))], [.inl (x9), .inr (.inl (x3)), .inr (.inr (x0))], hp σ, 0, 0)) 3 rfl ?_
          refine T_cs (i := iI) (as := [.inr (.inr (x0)), .inr (.inl (x3)), .inl (x9)]) (rest := []) (st := [.inl (x9), .inr (.inl (x3)), .inr (.inr (x0))]) rfl (lb rfl) rfl rfl ⟨lb rfl, lb rfl, lb rfl, lb rfl⟩ (fun _ h => Ew_le (Nat.le_trans (lb rfl) hd) (s_X9_oldestBuffered x0 x3 x9 σ _ h)) (fun r2 => ?_)
          show Snd false none _ _ _ (cN iU) (89, [(0, .inr (.inr (x0))), (1, .inr (.inr (x1))), (2, .inl (x2)), (3, .inr (.inl (x3))), (5, .inl (x5)), (6, .inl (x6)), (8, .inl (x8)), (9, .inl (x9))], [.inl (r2.1)], hp r2.2, 0, 0)
          refine T_go (S' := (93, [(0, .inr (.inr (x0))), (1, .inr (.inr (x1))), (2, .inl (x2)), (3, .inr (.inl (x3))), (5, .inl (x5)), (6, .inl (x6)), (8, .inl (x8)), (9, .inl (x9))], [.inl (r2.1)], hp r2.2, 0, 0)) 1 rfl ?_
          refine T_loc (ls' := [(0, .inr (.inr (x0))), (1, .inr (.inr (x1))), (2, .inl (x2)), (3, .inr (.inl (x3))), (5, .inl (x5)), (6, .inl (x6)), (8, .inl (x8)), (9, .inl (x9))]) [0, 1, 2, 3, 4, 5, 6, 7] rfl ?_
          exact (ih.2.1) x0 x1 x2 x3 x5 x6 x8 x9 r2.1 r2.2
    · intro x0 x1 x2 x3 x5 x6 x8 x9 s0 σ
      unfold f_X9_explore_L71
      refine T_go (S' := (98, [(10, .inl (s0)), (0, .inr (.inr (x0))), (1, .inr (.inr (x1))), (2, .inl (x2)), (3, .inr (.inl (x3))), (5, .inl (x5)), (6, .inl (x6)), (8, .inl (x8)), (9, .inl (x9))], [.inl ((-1 : Int32)), .inl (s0)], hp σ, 0, 0)) 3 rfl ?_
      refine T_icmp_eq 158 rfl rfl (fun _ => ?_) (fun _ => ?_)
      · refine T_loc (ls' := [(0, .inr (.inr (x0))), (1, .inr (.inr (x1))), (2, .inl (x2)), (3, .inr (.inl (x3))), (5, .inl (x5)), (6, .inl (x6)), (8, .inl (x8)), (9, .inl (x9)), (10, .inl (s0))]) [1, 2, 3, 4, 5, 6, 7, 8, 0] rfl ?_
        exact (ih.2.2.1) x0 x1 x2 x3 x5 x6 x8 x9 s0 σ
      · refine T_go (S' := (108, [(8, .inl ((0 : Int32))), (10, .inl (s0)), (0, .inr (.inr (x0))), (1, .inr (.inr (x1))), (2, .inl (x2)), (3, .inr (.inl (x3))), (5, .inl (x5)), (6, .inl (x6)), (9, .inl (x9))], [.inr (.inr (x0)), .inl ((6 : Int32)), .inr (.inl (x3))], hp σ, 0, 0)) 5 rfl ?_
        refine T_getR rfl (fun _ => ?_)
        refine T_go (S' := (113, [(8, .inl ((0 : Int32))), (10, .inl (s0)), (0, .inr (.inr (x0))), (1, .inr (.inr (x1))), (2, .inl (x2)), (3, .inr (.inl (x3))), (5, .inl (x5)), (6, .inl (x6)), (9, .inl (x9))], [.inl (s0), .inr (.inr ((RH x0 1))), .inl ((6 : Int32)), .inr (.inl (x3))], hp σ, 0, 0)) 1 rfl ?_
        refine T_iald rfl (fun _ => ?_)
        refine T_go (S' := (116, [(8, .inl ((0 : Int32))), (10, .inl (s0)), (0, .inr (.inr (x0))), (1, .inr (.inr (x1))), (2, .inl (x2)), (3, .inr (.inl (x3))), (5, .inl (x5)), (6, .inl (x6)), (9, .inl (x9))], [.inr (.inr (x0)), .inl (((6 : Int32) + (σ.1 (RH x0 1) s0.toNatClampNeg))), .inr (.inl (x3))], hp σ, 0, 0)) 2 rfl ?_
        refine T_getR rfl (fun _ => ?_)
        refine T_go (S' := (121, [(8, .inl ((0 : Int32))), (10, .inl (s0)), (0, .inr (.inr (x0))), (1, .inr (.inr (x1))), (2, .inl (x2)), (3, .inr (.inl (x3))), (5, .inl (x5)), (6, .inl (x6)), (9, .inl (x9))], [.inl (s0), .inr (.inr ((RH x0 2))), .inl (((6 : Int32) + (σ.1 (RH x0 1) s0.toNatClampNeg))), .inr (.inl (x3))], hp σ, 0, 0)) 1 rfl ?_
        refine T_iald rfl (fun _ => ?_)
        refine T_cs (i := iJ) (as := [.inr (.inl (x3)), .inl (((6 : Int32) + (σ.1 (RH x0 1) s0.toNatClampNeg))), .inl ((σ.1 (RH x0 2) s0.toNatClampNeg))]) (rest := []) (st := [.inl ((σ.1 (RH x0 2) s0.toNatClampNeg)), .inl (((6 : Int32) + (σ.1 (RH x0 1) s0.toNatClampNeg))), .inr (.inl (x3))]) rfl (lb rfl) rfl rfl ⟨lb rfl, lb rfl, lb rfl, lb rfl⟩ (fun _ h => Ew_le (Nat.le_trans (lb rfl) hd) (s_X9_with x3 ((6 : Int32) + (σ.1 (RH x0 1) s0.toNatClampNeg)) (σ.1 (RH x0 2) s0.toNatClampNeg) σ _ h)) (fun r1 => ?_)
        show Snd false none _ _ _ (cN iU) (125, [(8, .inl ((0 : Int32))), (10, .inl (s0)), (0, .inr (.inr (x0))), (1, .inr (.inr (x1))), (2, .inl (x2)), (3, .inr (.inl (x3))), (5, .inl (x5)), (6, .inl (x6)), (9, .inl (x9))], [.inr (.inl (r1.1))], hp r1.2, 0, 0)
        refine T_go (S' := (136, [(11, .inr (.inl (r1.1))), (8, .inl ((0 : Int32))), (10, .inl (s0)), (0, .inr (.inr (x0))), (1, .inr (.inr (x1))), (2, .inl (x2)), (3, .inr (.inl (x3))), (5, .inl (x5)), (6, .inl (x6)), (9, .inl (x9))], [.inl ((4 : Int32)), .inl (s0), .inl (((3 : Int32) + x9)), .inr (.inl (r1.1))], hp r1.2, 0, 0)) 7 rfl ?_
        refine T_irem rfl (fun _ => ?_)
        refine T_go (S' := (139, [(11, .inr (.inl (r1.1))), (8, .inl ((0 : Int32))), (10, .inl (s0)), (0, .inr (.inr (x0))), (1, .inr (.inr (x1))), (2, .inl (x2)), (3, .inr (.inl (x3))), (5, .inl (x5)), (6, .inl (x6)), (9, .inl (x9))], [.inl (((s0 - s0 / (4 : Int32) * (4 : Int32)) + (1 : Int32))), .inl (((3 : Int32) + x9)), .inr (.inl (r1.1))], hp r1.2, 0, 0)) 2 rfl ?_
        refine T_cs (i := iJ) (as := [.inr (.inl (r1.1)), .inl (((3 : Int32) + x9)), .inl (((s0 - s0 / (4 : Int32) * (4 : Int32)) + (1 : Int32)))]) (rest := []) (st := [.inl (((s0 - s0 / (4 : Int32) * (4 : Int32)) + (1 : Int32))), .inl (((3 : Int32) + x9)), .inr (.inl (r1.1))]) rfl (lb rfl) rfl rfl ⟨lb rfl, lb rfl, lb rfl, lb rfl⟩ (fun _ h => Ew_le (Nat.le_trans (lb rfl) hd) (s_X9_with r1.1 ((3 : Int32) + x9) ((s0 - s0 / (4 : Int32) * (4 : Int32)) + (1 : Int32)) r1.2 _ h)) (fun r2 => ?_)
        show Snd false none _ _ _ (cN iU) (142, [(11, .inr (.inl (r1.1))), (8, .inl ((0 : Int32))), (10, .inl (s0)), (0, .inr (.inr (x0))), (1, .inr (.inr (x1))), (2, .inl (x2)), (3, .inr (.inl (x3))), (5, .inl (x5)), (6, .inl (x6)), (9, .inl (x9))], [.inr (.inl (r2.1))], hp r2.2, 0, 0)
        refine T_go (S' := (155, [(11, .inr (.inl (r2.1))), (8, .inl ((0 : Int32))), (10, .inl (s0)), (0, .inr (.inr (x0))), (1, .inr (.inr (x1))), (2, .inl (x2)), (3, .inr (.inl (x3))), (5, .inl (x5)), (6, .inl (x6)), (9, .inl (x9))], [.inl ((x6 + (1 : Int32))), .inl (x5), .inr (.inl (r2.1)), .inl (x2), .inr (.inr (x1)), .inr (.inr (x0))], hp r2.2, 0, 0)) 9 rfl ?_
        refine T_cs (i := iU) (as := [.inr (.inr (x0)), .inr (.inr (x1)), .inl (x2), .inr (.inl (r2.1)), .inl (x5), .inl ((x6 + (1 : Int32)))]) (rest := []) (st := [.inl ((x6 + (1 : Int32))), .inl (x5), .inr (.inl (r2.1)), .inl (x2), .inr (.inr (x1)), .inr (.inr (x0))]) rfl (lb rfl) rfl rfl ⟨lb rfl, lb rfl, lb rfl, lb rfl⟩ (hrec x0 x1 x2 r2.1 x5 (x6 + (1 : Int32)) r2.2) (fun r3 => ?_)
        show Snd false none _ _ _ (cN iU) (158, [(11, .inr (.inl (r2.1))), (8, .inl ((0 : Int32))), (10, .inl (s0)), (0, .inr (.inr (x0))), (1, .inr (.inr (x1))), (2, .inl (x2)), (3, .inr (.inl (x3))), (5, .inl (x5)), (6, .inl (x6)), (9, .inl (x9))], [], hp r3.2, 0, 0)
        refine T_loc (ls' := [(0, .inr (.inr (x0))), (1, .inr (.inr (x1))), (2, .inl (x2)), (3, .inr (.inl (x3))), (5, .inl (x5)), (6, .inl (x6)), (8, .inl ((0 : Int32))), (9, .inl (x9)), (10, .inl (s0))]) [3, 4, 5, 6, 7, 8, 1, 9, 2] rfl ?_
        exact (ih.2.2.1) x0 x1 x2 x3 x5 x6 (0 : Int32) x9 s0 r3.2
    · intro x0 x1 x2 x3 x5 x6 x8 x9 x10 σ
      unfold f_X9_explore_L71
      refine T_go (S' := (162, [(0, .inr (.inr (x0))), (1, .inr (.inr (x1))), (2, .inl (x2)), (3, .inr (.inl (x3))), (5, .inl (x5)), (6, .inl (x6)), (8, .inl (x8)), (9, .inl (x9)), (10, .inl (x10))], [.inl (x9), .inr (.inl (x3)), .inr (.inr (x0))], hp σ, 0, 0)) 3 rfl ?_
      refine T_cs (i := iI) (as := [.inr (.inr (x0)), .inr (.inl (x3)), .inl (x9)]) (rest := []) (st := [.inl (x9), .inr (.inl (x3)), .inr (.inr (x0))]) rfl (lb rfl) rfl rfl ⟨lb rfl, lb rfl, lb rfl, lb rfl⟩ (fun _ h => Ew_le (Nat.le_trans (lb rfl) hd) (s_X9_nextSlot x0 x3 x9 σ _ h)) (fun r1 => ?_)
      show Snd false none _ _ _ (cN iU) (165, [(0, .inr (.inr (x0))), (1, .inr (.inr (x1))), (2, .inl (x2)), (3, .inr (.inl (x3))), (5, .inl (x5)), (6, .inl (x6)), (8, .inl (x8)), (9, .inl (x9)), (10, .inl (x10))], [.inl (r1.1)], hp r1.2, 0, 0)
      refine T_go (S' := (170, [(11, .inl (r1.1)), (0, .inr (.inr (x0))), (1, .inr (.inr (x1))), (2, .inl (x2)), (3, .inr (.inl (x3))), (5, .inl (x5)), (6, .inl (x6)), (8, .inl (x8)), (9, .inl (x9)), (10, .inl (x10))], [.inl ((-1 : Int32)), .inl (r1.1)], hp r1.2, 0, 0)) 3 rfl ?_
      refine T_icmp_eq 231 rfl rfl (fun _ => ?_) (fun _ => ?_)
      · refine T_loc (ls' := [(0, .inr (.inr (x0))), (1, .inr (.inr (x1))), (2, .inl (x2)), (3, .inr (.inl (x3))), (5, .inl (x5)), (6, .inl (x6)), (8, .inl (x8)), (9, .inl (x9))]) [1, 2, 3, 4, 5, 6, 7, 8] rfl ?_
        exact (ih.2.2.2.2) x0 x1 x2 x3 x5 x6 x8 x9 r1.2
      · refine T_go (S' := (176, [(11, .inl (r1.1)), (0, .inr (.inr (x0))), (1, .inr (.inr (x1))), (2, .inl (x2)), (3, .inr (.inl (x3))), (5, .inl (x5)), (6, .inl (x6)), (8, .inl (x8)), (9, .inl (x9)), (10, .inl (x10))], [.inl ((-1 : Int32)), .inl (x10)], hp r1.2, 0, 0)) 2 rfl ?_
        refine T_icmp_eq 190 rfl rfl (fun _ => ?_) (fun _ => ?_)
        · refine T_loc (ls' := [(0, .inr (.inr (x0))), (1, .inr (.inr (x1))), (2, .inl (x2)), (3, .inr (.inl (x3))), (5, .inl (x5)), (6, .inl (x6)), (9, .inl (x9)), (11, .inl (r1.1))]) [1, 2, 3, 4, 5, 6, 8, 0] rfl ?_
          exact (ih.2.2.2.1) x0 x1 x2 x3 x5 x6 x9 r1.1 r1.2
        · refine T_go (S' := (180, [(11, .inl (r1.1)), (0, .inr (.inr (x0))), (1, .inr (.inr (x1))), (2, .inl (x2)), (3, .inr (.inl (x3))), (5, .inl (x5)), (6, .inl (x6)), (8, .inl (x8)), (9, .inl (x9)), (10, .inl (x10))], [.inr (.inr (x0))], hp r1.2, 0, 0)) 1 rfl ?_
          refine T_getR rfl (fun _ => ?_)
          refine T_go (S' := (185, [(11, .inl (r1.1)), (0, .inr (.inr (x0))), (1, .inr (.inr (x1))), (2, .inl (x2)), (3, .inr (.inl (x3))), (5, .inl (x5)), (6, .inl (x6)), (8, .inl (x8)), (9, .inl (x9)), (10, .inl (x10))], [.inl (r1.1), .inr (.inr ((RH x0 0)))], hp r1.2, 0, 0)) 1 rfl ?_
          refine T_iald rfl (fun _ => ?_)
          refine T_go (S' := (187, [(11, .inl (r1.1)), (0, .inr (.inr (x0))), (1, .inr (.inr (x1))), (2, .inl (x2)), (3, .inr (.inl (x3))), (5, .inl (x5)), (6, .inl (x6)), (8, .inl (x8)), (9, .inl (x9)), (10, .inl (x10))], [.inl ((1 : Int32)), .inl ((r1.2.1 (RH x0 0) r1.1.toNatClampNeg))], hp r1.2, 0, 0)) 1 rfl ?_
          refine T_icmp_ne 231 rfl rfl (fun _ => ?_) (fun _ => ?_)
          · refine T_loc (ls' := [(0, .inr (.inr (x0))), (1, .inr (.inr (x1))), (2, .inl (x2)), (3, .inr (.inl (x3))), (5, .inl (x5)), (6, .inl (x6)), (8, .inl (x8)), (9, .inl (x9))]) [1, 2, 3, 4, 5, 6, 7, 8] rfl ?_
            exact (ih.2.2.2.2) x0 x1 x2 x3 x5 x6 x8 x9 r1.2
          · refine T_loc (ls' := [(0, .inr (.inr (x0))), (1, .inr (.inr (x1))), (2, .inl (x2)), (3, .inr (.inl (x3))), (5, .inl (x5)), (6, .inl (x6)), (9, .inl (x9)), (11, .inl (r1.1))]) [1, 2, 3, 4, 5, 6, 8, 0] rfl ?_
            exact (ih.2.2.2.1) x0 x1 x2 x3 x5 x6 x9 r1.1 r1.2
    · intro x0 x1 x2 x3 x5 x6 x9 x11 σ
      unfold f_X9_explore_L71
      refine T_go (S' := (201, [(8, .inl ((0 : Int32))), (0, .inr (.inr (x0))), (1, .inr (.inr (x1))), (2, .inl (x2)), (3, .inr (.inl (x3))), (5, .inl (x5)), (6, .inl (x6)), (9, .inl (x9)), (11, .inl (x11))], [.inl (x11), .inr (.inl (x3)), .inl (x2), .inr (.inr (x0)), .inl (x11), .inr (.inr (x0))], hp σ, 0, 0)) 8 rfl ?_
      refine T_cs (i := iI) (as := [.inr (.inr (x0)), .inl (x2), .inr (.inl (x3)), .inl (x11)]) (rest := [.inl (x11), .inr (.inr (x0))]) (st := [.inl (x11), .inr (.inl (x3)), .inl (x2), .inr (.inr (x0)), .inl (x11), .inr (.inr (x0))]) rfl (lb rfl) rfl rfl ⟨lb rfl, lb rfl, lb rfl, lb rfl⟩ (fun _ h => Ew_le (Nat.le_trans (lb rfl) hd) (s_X9_resultOf x0 x2 x3 x11 σ _ h)) (fun r1 => ?_)
      show Snd false none _ _ _ (cN iU) (204, [(8, .inl ((0 : Int32))), (0, .inr (.inr (x0))), (1, .inr (.inr (x1))), (2, .inl (x2)), (3, .inr (.inl (x3))), (5, .inl (x5)), (6, .inl (x6)), (9, .inl (x9)), (11, .inl (x11))], [.inl (r1.1), .inl (x11), .inr (.inr (x0))], hp r1.2, 0, 0)
      refine T_cv (i := iI) (as := [.inr (.inr (x0)), .inl (x11), .inl (r1.1)]) (rest := []) (st := [.inl (r1.1), .inl (x11), .inr (.inr (x0))]) rfl rfl rfl ⟨lb rfl, lb rfl, lb rfl, lb rfl⟩ (fun _ h => Ew_le (Nat.le_trans (lb rfl) hd) (s_X8_told x0 x11 r1.1 r1.2 _ h)) (fun _ r2 => ?_)
      show Snd false none _ _ _ (cN iU) (207, [(8, .inl ((0 : Int32))), (0, .inr (.inr (x0))), (1, .inr (.inr (x1))), (2, .inl (x2)), (3, .inr (.inl (x3))), (5, .inl (x5)), (6, .inl (x6)), (9, .inl (x9)), (11, .inl (x11))], [.inl (r2.1)], hp r2.2, 0, 0)
      refine T_go (S' := (216, [(12, .inl (r2.1)), (8, .inl ((0 : Int32))), (0, .inr (.inr (x0))), (1, .inr (.inr (x1))), (2, .inl (x2)), (3, .inr (.inl (x3))), (5, .inl (x5)), (6, .inl (x6)), (9, .inl (x9)), (11, .inl (x11))], [.inl (x11), .inr (.inl (x3)), .inr (.inr (x0)), .inl (x2), .inr (.inr (x1)), .inr (.inr (x0))], hp r2.2, 0, 0)) 7 rfl ?_
      refine T_cs (i := iJ) (as := [.inr (.inr (x0)), .inr (.inl (x3)), .inl (x11)]) (rest := [.inl (x2), .inr (.inr (x1)), .inr (.inr (x0))]) (st := [.inl (x11), .inr (.inl (x3)), .inr (.inr (x0)), .inl (x2), .inr (.inr (x1)), .inr (.inr (x0))]) rfl (lb rfl) rfl rfl ⟨lb rfl, lb rfl, lb rfl, lb rfl⟩ (fun _ h => Ew_le (Nat.le_trans (lb rfl) hd) (s_X9_after x0 x3 x11 r2.2 _ h)) (fun r3 => ?_)
      show Snd false none _ _ _ (cN iU) (219, [(12, .inl (r2.1)), (8, .inl ((0 : Int32))), (0, .inr (.inr (x0))), (1, .inr (.inr (x1))), (2, .inl (x2)), (3, .inr (.inl (x3))), (5, .inl (x5)), (6, .inl (x6)), (9, .inl (x9)), (11, .inl (x11))], [.inr (.inl (r3.1)), .inl (x2), .inr (.inr (x1)), .inr (.inr (x0))], hp r3.2, 0, 0)
      refine T_go (S' := (228, [(12, .inl (r2.1)), (8, .inl ((0 : Int32))), (0, .inr (.inr (x0))), (1, .inr (.inr (x1))), (2, .inl (x2)), (3, .inr (.inl (x3))), (5, .inl (x5)), (6, .inl (x6)), (9, .inl (x9)), (11, .inl (x11))], [.inl ((x6 + (1 : Int32))), .inl ((x5 + r2.1)), .inr (.inl (r3.1)), .inl (x2), .inr (.inr (x1)), .inr (.inr (x0))], hp r3.2, 0, 0)) 6 rfl ?_
      refine T_cs (i := iU) (as := [.inr (.inr (x0)), .inr (.inr (x1)), .inl (x2), .inr (.inl (r3.1)), .inl ((x5 + r2.1)), .inl ((x6 + (1 : Int32)))]) (rest := []) (st := [.inl ((x6 + (1 : Int32))), .inl ((x5 + r2.1)), .inr (.inl (r3.1)), .inl (x2), .inr (.inr (x1)), .inr (.inr (x0))]) rfl (lb rfl) rfl rfl ⟨lb rfl, lb rfl, lb rfl, lb rfl⟩ (hrec x0 x1 x2 r3.1 (x5 + r2.1) (x6 + (1 : Int32)) r3.2) (fun r4 => ?_)
      show Snd false none _ _ _ (cN iU) (231, [(12, .inl (r2.1)), (8, .inl ((0 : Int32))), (0, .inr (.inr (x0))), (1, .inr (.inr (x1))), (2, .inl (x2)), (3, .inr (.inl (x3))), (5, .inl (x5)), (6, .inl (x6)), (9, .inl (x9)), (11, .inl (x11))], [], hp r4.2, 0, 0)
      refine T_loc (ls' := [(0, .inr (.inr (x0))), (1, .inr (.inr (x1))), (2, .inl (x2)), (3, .inr (.inl (x3))), (5, .inl (x5)), (6, .inl (x6)), (8, .inl ((0 : Int32))), (9, .inl (x9))]) [2, 3, 4, 5, 6, 7, 1, 8] rfl ?_
      exact (ih.2.2.2.2) x0 x1 x2 x3 x5 x6 (0 : Int32) x9 r4.2
    · intro x0 x1 x2 x3 x5 x6 x8 x9 σ
      unfold f_X9_explore_L71
      refine T_go (S' := (71, [(9, .inl ((x9 + (1 : Int32)))), (0, .inr (.inr (x0))), (1, .inr (.inr (x1))), (2, .inl (x2)), (3, .inr (.inl (x3))), (5, .inl (x5)), (6, .inl (x6)), (8, .inl (x8))], [], hp σ, 0, 0)) 2 rfl ?_
      refine T_loc (ls' := [(0, .inr (.inr (x0))), (1, .inr (.inr (x1))), (2, .inl (x2)), (3, .inr (.inl (x3))), (5, .inl (x5)), (6, .inl (x6)), (8, .inl (x8)), (9, .inl ((x9 + (1 : Int32))))]) [1, 2, 3, 4, 5, 6, 7, 0] rfl ?_
      exact (ih.1) x0 x1 x2 x3 x5 x6 x8 (x9 + (1 : Int32)) σ
def f_X9_explore_22 (rec : Nat → Nat → Int32 → Int64 → Int32 → Int32 → eMem → Option (Unit × eMem)) (x0 : Nat) (x1 : Nat) (x2 : Int32) (x3 : Int64) (x5 : Int32) (x6 : Int32) (s0 : Int32) (σ : eMem) : Option (Unit × eMem) :=
  if s0 = (-1 : Int32) then
    f_X9_explore_L71 rec 1000000 (.inl (x0, x1, x2, x3, x5, x6, (1 : Int32), (0 : Int32))) σ
  else
    Option.bind (f_X9_part x3 ((0 : Int32) + s0) σ) (fun r1 =>
      Option.bind (f_X9_with x3 ((0 : Int32) + s0) (r1.1 + (1 : Int32)) r1.2) (fun r2 =>
        Option.bind (rec x0 x1 x2 r2.1 x5 (x6 + (1 : Int32)) r2.2) (fun r3 =>
          some ((), r3.2)
          )
        )
      )
set_option maxHeartbeats 4000000 in
set_option maxRecDepth 20000 in
theorem s_X9_explore_22 (rec : Nat → Nat → Int32 → Int64 → Int32 → Int32 → eMem → Option (Unit × eMem)) (dd : Nat) (hd : 3 ≤ dd) (hrec : ∀ (x0 : Nat) (x1 : Nat) (x2 : Int32) (x3 : Int64) (x5 : Int32) (x6 : Int32) (σ : eMem) r, rec x0 x1 x2 x3 x5 x6 σ = some r → Ew false dd 82 [.inr (.inr (x0)), .inr (.inr (x1)), .inl (x2), .inr (.inl (x3)), .inl (x5), .inl (x6)] (hp σ) ((cN iU) r)) (x0 : Nat) (x1 : Nat) (x2 : Int32) (x3 : Int64) (x5 : Int32) (x6 : Int32) (s0 : Int32) (σ : eMem) : Snd false none dd m_X9_explore (f_X9_explore_22 rec x0 x1 x2 x3 x5 x6 s0 σ) (cN iU) (22, [(0, .inr (.inr (x0))), (1, .inr (.inr (x1))), (2, .inl (x2)), (3, .inr (.inl (x3))), (5, .inl (x5)), (6, .inl (x6))], [.inl (s0)], hp σ, 0, 0) := by
  unfold f_X9_explore_22
  refine T_go (S' := (27, [(7, .inl (s0)), (0, .inr (.inr (x0))), (1, .inr (.inr (x1))), (2, .inl (x2)), (3, .inr (.inl (x3))), (5, .inl (x5)), (6, .inl (x6))], [.inl ((-1 : Int32)), .inl (s0)], hp σ, 0, 0)) 3 rfl ?_
  refine T_icmp_eq 65 rfl rfl (fun _ => ?_) (fun _ => ?_)
  · refine T_go (S' := (71, [(9, .inl ((0 : Int32))), (8, .inl ((1 : Int32))), (7, .inl (s0)), (0, .inr (.inr (x0))), (1, .inr (.inr (x1))), (2, .inl (x2)), (3, .inr (.inl (x3))), (5, .inl (x5)), (6, .inl (x6))], [], hp σ, 0, 0)) 4 rfl ?_
    refine T_loc (ls' := [(0, .inr (.inr (x0))), (1, .inr (.inr (x1))), (2, .inl (x2)), (3, .inr (.inl (x3))), (5, .inl (x5)), (6, .inl (x6)), (8, .inl ((1 : Int32))), (9, .inl ((0 : Int32)))]) [3, 4, 5, 6, 7, 8, 1, 0] rfl ?_
    exact (s_X9_explore_L71 rec dd hd hrec 1000000).1 x0 x1 x2 x3 x5 x6 (1 : Int32) (0 : Int32) σ
  · refine T_go (S' := (40, [(7, .inl (s0)), (0, .inr (.inr (x0))), (1, .inr (.inr (x1))), (2, .inl (x2)), (3, .inr (.inl (x3))), (5, .inl (x5)), (6, .inl (x6))], [.inl (((0 : Int32) + s0)), .inr (.inl (x3)), .inl (((0 : Int32) + s0)), .inr (.inl (x3))], hp σ, 0, 0)) 8 rfl ?_
    refine T_cs (i := iI) (as := [.inr (.inl (x3)), .inl (((0 : Int32) + s0))]) (rest := [.inl (((0 : Int32) + s0)), .inr (.inl (x3))]) (st := [.inl (((0 : Int32) + s0)), .inr (.inl (x3)), .inl (((0 : Int32) + s0)), .inr (.inl (x3))]) rfl (lb rfl) rfl rfl ⟨lb rfl, lb rfl, lb rfl, lb rfl⟩ (fun _ h => Ew_le (Nat.le_trans (lb rfl) hd) (s_X9_part x3 ((0 : Int32) + s0) σ _ h)) (fun r1 => ?_)
    show Snd false none _ _ _ (cN iU) (43, [(7, .inl (s0)), (0, .inr (.inr (x0))), (1, .inr (.inr (x1))), (2, .inl (x2)), (3, .inr (.inl (x3))), (5, .inl (x5)), (6, .inl (x6))], [.inl (r1.1), .inl (((0 : Int32) + s0)), .inr (.inl (x3))], hp r1.2, 0, 0)
    refine T_go (S' := (45, [(7, .inl (s0)), (0, .inr (.inr (x0))), (1, .inr (.inr (x1))), (2, .inl (x2)), (3, .inr (.inl (x3))), (5, .inl (x5)), (6, .inl (x6))], [.inl ((r1.1 + (1 : Int32))), .inl (((0 : Int32) + s0)), .inr (.inl (x3))], hp r1.2, 0, 0)) 2 rfl ?_
    refine T_cs (i := iJ) (as := [.inr (.inl (x3)), .inl (((0 : Int32) + s0)), .inl ((r1.1 + (1 : Int32)))]) (rest := []) (st := [.inl ((r1.1 + (1 : Int32))), .inl (((0 : Int32) + s0)), .inr (.inl (x3))]) rfl (lb rfl) rfl rfl ⟨lb rfl, lb rfl, lb rfl, lb rfl⟩ (fun _ h => Ew_le (Nat.le_trans (lb rfl) hd) (s_X9_with x3 ((0 : Int32) + s0) (r1.1 + (1 : Int32)) r1.2 _ h)) (fun r2 => ?_)
    show Snd false none _ _ _ (cN iU) (48, [(7, .inl (s0)), (0, .inr (.inr (x0))), (1, .inr (.inr (x1))), (2, .inl (x2)), (3, .inr (.inl (x3))), (5, .inl (x5)), (6, .inl (x6))], [.inr (.inl (r2.1))], hp r2.2, 0, 0)
    refine T_go (S' := (61, [(8, .inr (.inl (r2.1))), (7, .inl (s0)), (0, .inr (.inr (x0))), (1, .inr (.inr (x1))), (2, .inl (x2)), (3, .inr (.inl (x3))), (5, .inl (x5)), (6, .inl (x6))], [.inl ((x6 + (1 : Int32))), .inl (x5), .inr (.inl (r2.1)), .inl (x2), .inr (.inr (x1)), .inr (.inr (x0))], hp r2.2, 0, 0)) 9 rfl ?_
    refine T_cs (i := iU) (as := [.inr (.inr (x0)), .inr (.inr (x1)), .inl (x2), .inr (.inl (r2.1)), .inl (x5), .inl ((x6 + (1 : Int32)))]) (rest := []) (st := [.inl ((x6 + (1 : Int32))), .inl (x5), .inr (.inl (r2.1)), .inl (x2), .inr (.inr (x1)), .inr (.inr (x0))]) rfl (lb rfl) rfl rfl ⟨lb rfl, lb rfl, lb rfl, lb rfl⟩ (hrec x0 x1 x2 r2.1 x5 (x6 + (1 : Int32)) r2.2) (fun r3 => ?_)
    show Snd false none _ _ _ (cN iU) (64, [(8, .inr (.inl (r2.1))), (7, .inl (s0)), (0, .inr (.inr (x0))), (1, .inr (.inr (x1))), (2, .inl (x2)), (3, .inr (.inl (x3))), (5, .inl (x5)), (6, .inl (x6))], [], hp r3.2, 0, 0)
    exact T_ret rfl
def f_X9_explore_N (rec : Nat → Nat → Int32 → Int64 → Int32 → Int32 → eMem → Option (Unit × eMem)) (x0 : Nat) (x1 : Nat) (x2 : Int32) (x3 : Int64) (x5 : Int32) (x6 : Int32) (σ : eMem) : Option (Unit × eMem) :=
  if x6 ≤ (12 : Int32) then
    if ¬ x2 = (1 : Int32) then
      f_X9_explore_22 rec x0 x1 x2 x3 x5 x6 (-1 : Int32) σ
    else
      Option.bind (f_X9_threadAtStore x0 x3 σ) (fun r1 =>
        f_X9_explore_22 rec x0 x1 x2 x3 x5 x6 r1.1 r1.2
        )
  else
    some ((), σ)
set_option maxHeartbeats 4000000 in
set_option maxRecDepth 20000 in
theorem s_X9_explore_N (rec : Nat → Nat → Int32 → Int64 → Int32 → Int32 → eMem → Option (Unit × eMem)) (dd : Nat) (hd : 3 ≤ dd) (hrec : ∀ (x0 : Nat) (x1 : Nat) (x2 : Int32) (x3 : Int64) (x5 : Int32) (x6 : Int32) (σ : eMem) r, rec x0 x1 x2 x3 x5 x6 σ = some r → Ew false dd 82 [.inr (.inr (x0)), .inr (.inr (x1)), .inl (x2), .inr (.inl (x3)), .inl (x5), .inl (x6)] (hp σ) ((cN iU) r)) (x0 : Nat) (x1 : Nat) (x2 : Int32) (x3 : Int64) (x5 : Int32) (x6 : Int32) (σ : eMem) : ∀ r, f_X9_explore_N rec x0 x1 x2 x3 x5 x6 σ = some r → Ew false (dd + 1) 82 [.inr (.inr (x0)), .inr (.inr (x1)), .inl (x2), .inr (.inl (x3)), .inl (x5), .inl (x6)] (hp σ) (cN iU r) := by
  refine T_meth (md := m_X9_explore) (d0 := dd) (cv := (cN iU)) rfl (lb rfl) (Nat.le_refl _) ?_
  unfold f_X9_explore_N
  show Snd false none _ _ _ _ (0, [(0, .inr (.inr (x0))), (1, .inr (.inr (x1))), (2, .inl (x2)), (3, .inr (.inl (x3))), (5, .inl (x5)), (6, .inl (x6))], [], hp σ, 0, 0)
  refine T_go (S' := (4, [(0, .inr (.inr (x0))), (1, .inr (.inr (x1))), (2, .inl (x2)), (3, .inr (.inl (x3))), (5, .inl (x5)), (6, .inl (x6))], [.inl ((12 : Int32)), .inl (x6)], hp σ, 0, 0)) 2 rfl ?_
  refine T_icmp_le 8 rfl rfl (fun _ => ?_) (fun _ => ?_)
  · refine T_go (S' := (10, [(0, .inr (.inr (x0))), (1, .inr (.inr (x1))), (2, .inl (x2)), (3, .inr (.inl (x3))), (5, .inl (x5)), (6, .inl (x6))], [.inl ((1 : Int32)), .inl (x2)], hp σ, 0, 0)) 2 rfl ?_
    refine T_icmp_ne 21 rfl rfl (fun _ => ?_) (fun _ => ?_)
    · refine T_go (S' := (22, [(0, .inr (.inr (x0))), (1, .inr (.inr (x1))), (2, .inl (x2)), (3, .inr (.inl (x3))), (5, .inl (x5)), (6, .inl (x6))], [.inl ((-1 : Int32))], hp σ, 0, 0)) 1 rfl ?_
      refine T_loc (ls' := [(0, .inr (.inr (x0))), (1, .inr (.inr (x1))), (2, .inl (x2)), (3, .inr (.inl (x3))), (5, .inl (x5)), (6, .inl (x6))]) [0, 1, 2, 3, 4, 5] rfl ?_
      exact s_X9_explore_22 rec dd hd hrec x0 x1 x2 x3 x5 x6 (-1 : Int32) σ
    · refine T_go (S' := (15, [(0, .inr (.inr (x0))), (1, .inr (.inr (x1))), (2, .inl (x2)), (3, .inr (.inl (x3))), (5, .inl (x5)), (6, .inl (x6))], [.inr (.inl (x3)), .inr (.inr (x0))], hp σ, 0, 0)) 2 rfl ?_
      refine T_cs (i := iI) (as := [.inr (.inr (x0)), .inr (.inl (x3))]) (rest := []) (st := [.inr (.inl (x3)), .inr (.inr (x0))]) rfl (lb rfl) rfl rfl ⟨lb rfl, lb rfl, lb rfl, lb rfl⟩ (fun _ h => Ew_le (Nat.le_trans (lb rfl) hd) (s_X9_threadAtStore x0 x3 σ _ h)) (fun r1 => ?_)
      show Snd false none _ _ _ (cN iU) (18, [(0, .inr (.inr (x0))), (1, .inr (.inr (x1))), (2, .inl (x2)), (3, .inr (.inl (x3))), (5, .inl (x5)), (6, .inl (x6))], [.inl (r1.1)], hp r1.2, 0, 0)
      refine T_go (S' := (22, [(0, .inr (.inr (x0))), (1, .inr (.inr (x1))), (2, .inl (x2)), (3, .inr (.inl (x3))), (5, .inl (x5)), (6, .inl (x6))], [.inl (r1.1)], hp r1.2, 0, 0)) 1 rfl ?_
      refine T_loc (ls' := [(0, .inr (.inr (x0))), (1, .inr (.inr (x1))), (2, .inl (x2)), (3, .inr (.inl (x3))), (5, .inl (x5)), (6, .inl (x6))]) [0, 1, 2, 3, 4, 5] rfl ?_
      exact s_X9_explore_22 rec dd hd hrec x0 x1 x2 x3 x5 x6 r1.1 r1.2
  · exact T_ret rfl
def f_X9_explore_M : Nat → Nat → Nat → Int32 → Int64 → Int32 → Int32 → eMem → Option (Unit × eMem)
  | 0 => fun _ _ _ _ _ _ _ => none
  | n + 1 => f_X9_explore_N (f_X9_explore_M n)
theorem s_X9_explore_M : ∀ (n : Nat) (x0 : Nat) (x1 : Nat) (x2 : Int32) (x3 : Int64) (x5 : Int32) (x6 : Int32) (σ : eMem) r, f_X9_explore_M n x0 x1 x2 x3 x5 x6 σ = some r → Ew false (3 + n) 82 [.inr (.inr (x0)), .inr (.inr (x1)), .inl (x2), .inr (.inl (x3)), .inl (x5), .inl (x6)] (hp σ) ((cN iU) r) := by
  intro n
  induction n with
  | zero => exact fun _ _ _ _ _ _ _ _ h => nomatch h
  | succ n ih => exact fun x0 x1 x2 x3 x5 x6 σ r h => s_X9_explore_N (f_X9_explore_M n) (3 + n) (Nat.le_add_right _ _) ih x0 x1 x2 x3 x5 x6 σ r h
def f_X9_explore (x0 : Nat) (x1 : Nat) (x2 : Int32) (x3 : Int64) (x5 : Int32) (x6 : Int32) (σ : eMem) : Option (Unit × eMem) := f_X9_explore_M 16 x0 x1 x2 x3 x5 x6 σ
theorem s_X9_explore (x0 : Nat) (x1 : Nat) (x2 : Int32) (x3 : Int64) (x5 : Int32) (x6 : Int32) (σ : eMem) : ∀ r, f_X9_explore x0 x1 x2 x3 x5 x6 σ = some r → Ew false 20 82 [.inr (.inr (x0)), .inr (.inr (x1)), .inl (x2), .inr (.inl (x3)), .inl (x5), .inl (x6)] (hp σ) ((cN iU) r) := fun r h => Ew_le (lb rfl) (s_X9_explore_M 16 x0 x1 x2 x3 x5 x6 σ r h)
def f_X10_open_22 : Nat → Nat → Int32 → eMem → Option (Int32 × eMem)
  | 0, _, _, _ => none
  | n + 1, x0, x1, σ =>
    if (16 : Int32) ≤ x1 then
      if (KH x0).1 = 8 then
        some ((σ.1 x0 2), σ)
      else none
    else
      if (KH x0).1 = 8 then
        if (KH (RH x0 5)).1 = 13 ∧ eix x1 (KH (RH x0 5)).2 = true ∧ eB (0 : Int32) = true then eLet ((eup σ.1 (RH x0 5) x1.toNatClampNeg (0 : Int32), σ.2) : eMem) (fun σ1 =>
          if (KH x0).1 = 8 then
            if (KH (RH x0 6)).1 = 11 ∧ eix x1 (KH (RH x0 6)).2 = true then eLet ((eup σ1.1 (RH x0 6) x1.toNatClampNeg (-1 : Int32), σ1.2) : eMem) (fun σ2 =>
              f_X10_open_22 n x0 (x1 + (1 : Int32)) σ2
              ) else none
          else none
          ) else none
      else none
set_option maxHeartbeats 4000000 in
set_option maxRecDepth 20000 in
theorem s_X10_open_22 : ∀ (n : Nat) (x0 : Nat) (x1 : Int32) (σ : eMem), Snd false none 0 m_X10_open (f_X10_open_22 n x0 x1 σ) (cN iI) (22, [(0, .inr (.inr (x0))), (1, .inl (x1))], [], hp σ, 0, 0) := by
  intro n
  induction n with
  | zero => exact fun _ _ _ => T_none
  | succ n ih =>
    intro x0 x1 σ
    unfold f_X10_open_22
    refine T_go (S' := (25, [(0, .inr (.inr (x0))), (1, .inl (x1))], [.inl ((16 : Int32)), .inl (x1)], hp σ, 0, 0)) 2 rfl ?_
    refine T_icmp_ge 48 rfl rfl (fun _ => ?_) (fun _ => ?_)
    · refine T_go (S' := (49, [(0, .inr (.inr (x0))), (1, .inl (x1))], [.inr (.inr (x0))], hp σ, 0, 0)) 1 rfl ?_
      refine T_getI rfl (fun _ => ?_)
      exact T_ret rfl
    · refine T_go (S' := (29, [(0, .inr (.inr (x0))), (1, .inl (x1))], [.inr (.inr (x0))], hp σ, 0, 0)) 1 rfl ?_
      refine T_getR rfl (fun _ => ?_)
      refine T_go (S' := (34, [(0, .inr (.inr (x0))), (1, .inl (x1))], [.inl ((0 : Int32)), .inl (x1), .inr (.inr ((RH x0 5)))], hp σ, 0, 0)) 2 rfl ?_
      refine T_bast rfl (fun _ => ?_)
      refine T_let (Sf := fun σ1 => (35, [(0, .inr (.inr (x0))), (1, .inl (x1))], [], hp σ1, 0, 0)) (fun σ1 => ?_)
      refine T_go (S' := (36, [(0, .inr (.inr (x0))), (1, .inl (x1))], [.inr (.inr (x0))], hp σ1, 0, 0)) 1 rfl ?_
      refine T_getR rfl (fun _ => ?_)
      refine T_go (S' := (41, [(0, .inr (.inr (x0))), (1, .inl (x1))], [.inl ((-1 : Int32)), .inl (x1), .inr (.inr ((RH x0 6)))], hp σ1, 0, 0)) 2 rfl ?_
      refine T_iast rfl (fun _ => ?_)
      refine T_let (Sf := fun σ2 => (42, [(0, .inr (.inr (x0))), (1, .inl (x1))], [], hp σ2, 0, 0)) (fun σ2 => ?_)
      refine T_go (S' := (22, [(1, .inl ((x1 + (1 : Int32)))), (0, .inr (.inr (x0)))], [], hp σ2, 0, 0)) 2 rfl ?_
      refine T_loc (ls' := [(0, .inr (.inr (x0))), (1, .inl ((x1 + (1 : Int32))))]) [1, 0] rfl ?_
      exact ih x0 (x1 + (1 : Int32)) σ2
def f_X10_open (x0 : Nat) (σ : eMem) : Option (Int32 × eMem) :=
  if (KH x0).1 = 8 ∧ eB (1 : Int32) = true then eLet ((eup σ.1 x0 0 (1 : Int32), σ.2) : eMem) (fun σ1 =>
    if (KH x0).1 = 8 ∧ eB (0 : Int32) = true then eLet ((eup σ1.1 x0 1 (0 : Int32), σ1.2) : eMem) (fun σ2 =>
      if (KH x0).1 = 8 then eLet ((eup σ2.1 x0 3 (0 : Int32), σ2.2) : eMem) (fun σ3 =>
        if (KH x0).1 = 8 then eLet ((eup σ3.1 x0 4 (0 : Int32), σ3.2) : eMem) (fun σ4 =>
          f_X10_open_22 1000000 x0 (0 : Int32) σ4
          ) else none
        ) else none
      ) else none
    ) else none
set_option maxHeartbeats 4000000 in
set_option maxRecDepth 20000 in
theorem s_X10_open (x0 : Nat) (σ : eMem) : ∀ r, f_X10_open x0 σ = some r → Ew false 1 89 [.inr (.inr (x0))] (hp σ) (cN iI r) := by
  refine T_meth (md := m_X10_open) (d0 := 0) (cv := (cN iI)) rfl (lb rfl) (lb rfl) ?_
  unfold f_X10_open
  show Snd false none _ _ _ _ (0, [(0, .inr (.inr (x0)))], [], hp σ, 0, 0)
  refine T_go (S' := (2, [(0, .inr (.inr (x0)))], [.inl ((1 : Int32)), .inr (.inr (x0))], hp σ, 0, 0)) 2 rfl ?_
  refine T_putZ rfl (fun _ => ?_)
  refine T_let (Sf := fun σ1 => (5, [(0, .inr (.inr (x0)))], [], hp σ1, 0, 0)) (fun σ1 => ?_)
  refine T_go (S' := (7, [(0, .inr (.inr (x0)))], [.inl ((0 : Int32)), .inr (.inr (x0))], hp σ1, 0, 0)) 2 rfl ?_
  refine T_putZ rfl (fun _ => ?_)
  refine T_let (Sf := fun σ2 => (10, [(0, .inr (.inr (x0)))], [], hp σ2, 0, 0)) (fun σ2 => ?_)
  refine T_go (S' := (12, [(0, .inr (.inr (x0)))], [.inl ((0 : Int32)), .inr (.inr (x0))], hp σ2, 0, 0)) 2 rfl ?_
  refine T_putI rfl (fun _ => ?_)
  refine T_let (Sf := fun σ3 => (15, [(0, .inr (.inr (x0)))], [], hp σ3, 0, 0)) (fun σ3 => ?_)
  refine T_go (S' := (17, [(0, .inr (.inr (x0)))], [.inl ((0 : Int32)), .inr (.inr (x0))], hp σ3, 0, 0)) 2 rfl ?_
  refine T_putI rfl (fun _ => ?_)
  refine T_let (Sf := fun σ4 => (20, [(0, .inr (.inr (x0)))], [], hp σ4, 0, 0)) (fun σ4 => ?_)
  refine T_go (S' := (22, [(1, .inl ((0 : Int32))), (0, .inr (.inr (x0)))], [], hp σ4, 0, 0)) 2 rfl ?_
  refine T_loc (ls' := [(0, .inr (.inr (x0))), (1, .inl ((0 : Int32)))]) [1, 0] rfl ?_
  exact s_X10_open_22 1000000 x0 (0 : Int32) σ4
def f_X11_needIndex_9  (σ : eMem) : Option ((Nat ⊕ Unit) × eMem) :=
  some (.inl 0, σ)
set_option maxHeartbeats 4000000 in
set_option maxRecDepth 20000 in
theorem s_X11_needIndex_9  (σ : eMem) : Snd false none 0 m_X11_needIndex (f_X11_needIndex_9 σ) (cX iU) (9, [], [], hp σ, 0, 0) := by
  unfold f_X11_needIndex_9
  exact T_ret rfl
def f_X11_needIndex (x0 : Int32) (x1 : Int32) (σ : eMem) : Option ((Nat ⊕ Unit) × eMem) :=
  if x0 < (0 : Int32) then
    f_X11_needIndex_9  σ
  else
    if x0 < x1 then
      some (.inr (), σ)
    else
      f_X11_needIndex_9  σ
set_option maxHeartbeats 4000000 in
set_option maxRecDepth 20000 in
theorem s_X11_needIndex (x0 : Int32) (x1 : Int32) (σ : eMem) : ∀ r, f_X11_needIndex x0 x1 σ = some r → Ew false 1 125 [.inl (x0), .inl (x1)] (hp σ) (cX iU r) := by
  refine T_meth (md := m_X11_needIndex) (d0 := 0) (cv := (cX iU)) rfl (lb rfl) (lb rfl) ?_
  unfold f_X11_needIndex
  show Snd false none _ _ _ _ (0, [(0, .inl (x0)), (1, .inl (x1))], [], hp σ, 0, 0)
  refine T_go (S' := (1, [(0, .inl (x0)), (1, .inl (x1))], [.inl (x0)], hp σ, 0, 0)) 1 rfl ?_
  refine T_if_lt 9 rfl rfl (fun _ => ?_) (fun _ => ?_)
  · refine T_loc (ls' := []) [] rfl ?_
    exact s_X11_needIndex_9  σ
  · refine T_go (S' := (6, [(0, .inl (x0)), (1, .inl (x1))], [.inl (x1), .inl (x0)], hp σ, 0, 0)) 2 rfl ?_
    refine T_icmp_lt 19 rfl rfl (fun _ => ?_) (fun _ => ?_)
    · exact T_ret rfl
    · refine T_loc (ls' := []) [] rfl ?_
      exact s_X11_needIndex_9  σ
def f_X11_needCore (x0 : Int32) (σ : eMem) : Option ((Nat ⊕ Unit) × eMem) :=
  eThen (f_X11_needIndex x0 (4 : Int32) σ) (fun v1 σ2 =>
    some (.inr (), σ2)
    )
set_option maxHeartbeats 4000000 in
set_option maxRecDepth 20000 in
theorem s_X11_needCore (x0 : Int32) (σ : eMem) : ∀ r, f_X11_needCore x0 σ = some r → Ew false 2 123 [.inl (x0)] (hp σ) (cX iU r) := by
  refine T_meth (md := m_X11_needCore) (d0 := 1) (cv := (cX iU)) rfl (lb rfl) (lb rfl) ?_
  unfold f_X11_needCore
  show Snd false none _ _ _ _ (0, [(0, .inl (x0))], [], hp σ, 0, 0)
  refine T_go (S' := (2, [(0, .inl (x0))], [.inl ((4 : Int32)), .inl (x0)], hp σ, 0, 0)) 2 rfl ?_
  refine T_csx (i := iU) (as := [.inl (x0), .inl ((4 : Int32))]) (rest := []) (st := [.inl ((4 : Int32)), .inl (x0)]) rfl rfl (lb rfl) rfl rfl ⟨lb rfl, lb rfl, lb rfl, lb rfl⟩ (fun _ h => Ew_le (lb rfl) (s_X11_needIndex x0 (4 : Int32) σ _ h)) (fun v1 σ2 => ?_)
  show Snd false none _ _ _ (cX iU) (5, [(0, .inl (x0))], [], hp σ2, 1, 6)
  exact T_ret rfl
def f_X11_needLine (x0 : Int32) (σ : eMem) : Option ((Nat ⊕ Unit) × eMem) :=
  eThen (f_X11_needIndex x0 (16 : Int32) σ) (fun v1 σ2 =>
    some (.inr (), σ2)
    )
set_option maxHeartbeats 4000000 in
set_option maxRecDepth 20000 in
theorem s_X11_needLine (x0 : Int32) (σ : eMem) : ∀ r, f_X11_needLine x0 σ = some r → Ew false 2 124 [.inl (x0)] (hp σ) (cX iU r) := by
  refine T_meth (md := m_X11_needLine) (d0 := 1) (cv := (cX iU)) rfl (lb rfl) (lb rfl) ?_
  unfold f_X11_needLine
  show Snd false none _ _ _ _ (0, [(0, .inl (x0))], [], hp σ, 0, 0)
  refine T_go (S' := (3, [(0, .inl (x0))], [.inl ((16 : Int32)), .inl (x0)], hp σ, 0, 0)) 2 rfl ?_
  refine T_csx (i := iU) (as := [.inl (x0), .inl ((16 : Int32))]) (rest := []) (st := [.inl ((16 : Int32)), .inl (x0)]) rfl rfl (lb rfl) rfl rfl ⟨lb rfl, lb rfl, lb rfl, lb rfl⟩ (fun _ h => Ew_le (lb rfl) (s_X11_needIndex x0 (16 : Int32) σ _ h)) (fun v1 σ2 => ?_)
  show Snd false none _ _ _ (cX iU) (6, [(0, .inl (x0))], [], hp σ2, 1, 6)
  exact T_ret rfl
def f_X11_load (x0 : Nat) (x1 : Int32) (x2 : Int32) (σ : eMem) : Option ((Nat ⊕ Int32) × eMem) :=
  eThen (f_X11_needCore x1 σ) (fun v1 σ2 =>
    eThen (f_X11_needLine x2 σ2) (fun v3 σ4 =>
      if (KH x0).1 = 9 then
        if (KH (RH x0 3)).1 = 14 ∧ eix x1 (KH (RH x0 3)).2 = true then
          if (KH (RH (RH x0 3) x1.toNatClampNeg)).1 = 0 then
            if (KH (RH (RH (RH x0 3) x1.toNatClampNeg) 8)).1 = 8 then
              Option.bind (f_X10_admits (RH (RH (RH x0 3) x1.toNatClampNeg) 8) x2 σ4) (fun r5 =>
                if ¬ r5.1 = (0 : Int32) then
                  if (KH x0).1 = 9 then
                    if (KH (RH x0 3)).1 = 14 ∧ eix x1 (KH (RH x0 3)).2 = true then
                      if (KH (RH (RH x0 3) x1.toNatClampNeg)).1 = 0 then
                        Option.bind (f_X0_read (RH (RH x0 3) x1.toNatClampNeg) x2 r5.2) (fun r6 =>
                          some (.inr r6.1, r6.2)
                          )
                      else none
                    else none
                  else none
                else
                  some (.inl 2, r5.2)
                )
            else none
          else none
        else none
      else none
      )
    )
set_option maxHeartbeats 4000000 in
set_option maxRecDepth 20000 in
theorem s_X11_load (x0 : Nat) (x1 : Int32) (x2 : Int32) (σ : eMem) : ∀ r, f_X11_load x0 x1 x2 σ = some r → Ew false 7 98 [.inr (.inr (x0)), .inl (x1), .inl (x2)] (hp σ) (cX iI r) := by
  refine T_meth (md := m_X11_load) (d0 := 6) (cv := (cX iI)) rfl (lb rfl) (lb rfl) ?_
  unfold f_X11_load
  show Snd false none _ _ _ _ (0, [(0, .inr (.inr (x0))), (1, .inl (x1)), (2, .inl (x2))], [], hp σ, 0, 0)
  refine T_go (S' := (1, [(0, .inr (.inr (x0))), (1, .inl (x1)), (2, .inl (x2))], [.inl (x1)], hp σ, 0, 0)) 1 rfl ?_
  refine T_csx (i := iU) (as := [.inl (x1)]) (rest := []) (st := [.inl (x1)]) rfl rfl (lb rfl) rfl rfl ⟨lb rfl, lb rfl, lb rfl, lb rfl⟩ (fun _ h => Ew_le (lb rfl) (s_X11_needCore x1 σ _ h)) (fun v1 σ2 => ?_)
  show Snd false none _ _ _ (cX iI) (4, [(0, .inr (.inr (x0))), (1, .inl (x1)), (2, .inl (x2))], [], hp σ2, 1, 6)
  refine T_go (S' := (5, [(0, .inr (.inr (x0))), (1, .inl (x1)), (2, .inl (x2))], [.inl (x2)], hp σ2, 1, 6)) 1 rfl ?_
  refine T_csx (i := iU) (as := [.inl (x2)]) (rest := []) (st := [.inl (x2)]) rfl rfl (lb rfl) rfl rfl ⟨lb rfl, lb rfl, lb rfl, lb rfl⟩ (fun _ h => Ew_le (lb rfl) (s_X11_needLine x2 σ2 _ h)) (fun v3 σ4 => ?_)
  show Snd false none _ _ _ (cX iI) (8, [(0, .inr (.inr (x0))), (1, .inl (x1)), (2, .inl (x2))], [], hp σ4, 2, 12)
  refine T_go (S' := (9, [(0, .inr (.inr (x0))), (1, .inl (x1)), (2, .inl (x2))], [.inr (.inr (x0))], hp σ4, 2, 12)) 1 rfl ?_
  refine T_getR rfl (fun _ => ?_)
  refine T_go (S' := (13, [(0, .inr (.inr (x0))), (1, .inl (x1)), (2, .inl (x2))], [.inl (x1), .inr (.inr ((RH x0 3)))], hp σ4, 2, 12)) 1 rfl ?_
  refine T_aald rfl (fun _ => ?_)
  refine T_getR rfl (fun _ => ?_)
  refine T_go (S' := (18, [(0, .inr (.inr (x0))), (1, .inl (x1)), (2, .inl (x2))], [.inl (x2), .inr (.inr ((RH (RH (RH x0 3) x1.toNatClampNeg) 8)))], hp σ4, 2, 12)) 1 rfl ?_
  refine T_cv (i := iI) (as := [.inr (.inr ((RH (RH (RH x0 3) x1.toNatClampNeg) 8))), .inl (x2)]) (rest := []) (st := [.inl (x2), .inr (.inr ((RH (RH (RH x0 3) x1.toNatClampNeg) 8)))]) rfl rfl rfl ⟨lb rfl, lb rfl, lb rfl, lb rfl⟩ (fun _ h => Ew_le (lb rfl) (s_X10_admits (RH (RH (RH x0 3) x1.toNatClampNeg) 8) x2 σ4 _ h)) (fun _ r5 => ?_)
  show Snd false none _ _ _ (cX iI) (21, [(0, .inr (.inr (x0))), (1, .inl (x1)), (2, .inl (x2))], [.inl (r5.1)], hp r5.2, 2, 12)
  refine T_if_ne 34 rfl rfl (fun _ => ?_) (fun _ => ?_)
  · refine T_go (S' := (35, [(0, .inr (.inr (x0))), (1, .inl (x1)), (2, .inl (x2))], [.inr (.inr (x0))], hp r5.2, 2, 12)) 1 rfl ?_
    refine T_getR rfl (fun _ => ?_)
    refine T_go (S' := (39, [(0, .inr (.inr (x0))), (1, .inl (x1)), (2, .inl (x2))], [.inl (x1), .inr (.inr ((RH x0 3)))], hp r5.2, 2, 12)) 1 rfl ?_
    refine T_aald rfl (fun _ => ?_)
    refine T_go (S' := (41, [(0, .inr (.inr (x0))), (1, .inl (x1)), (2, .inl (x2))], [.inl (x2), .inr (.inr ((RH (RH x0 3) x1.toNatClampNeg)))], hp r5.2, 2, 12)) 1 rfl ?_
    refine T_cv (i := iI) (as := [.inr (.inr ((RH (RH x0 3) x1.toNatClampNeg))), .inl (x2)]) (rest := []) (st := [.inl (x2), .inr (.inr ((RH (RH x0 3) x1.toNatClampNeg)))]) rfl rfl rfl ⟨lb rfl, lb rfl, lb rfl, lb rfl⟩ (fun _ h => Ew_le (lb rfl) (s_X0_read (RH (RH x0 3) x1.toNatClampNeg) x2 r5.2 _ h)) (fun _ r6 => ?_)
    show Snd false none _ _ _ (cX iI) (44, [(0, .inr (.inr (x0))), (1, .inl (x1)), (2, .inl (x2))], [.inl (r6.1)], hp r6.2, 2, 12)
    exact T_ret rfl
  · exact T_ret rfl
def f_X11_needWithin_10  (σ : eMem) : Option ((Nat ⊕ Unit) × eMem) :=
  some (.inl 1, σ)
set_option maxHeartbeats 4000000 in
set_option maxRecDepth 20000 in
theorem s_X11_needWithin_10  (σ : eMem) : Snd false none 0 m_X11_needWithin (f_X11_needWithin_10 σ) (cX iU) (10, [], [], hp σ, 0, 0) := by
  unfold f_X11_needWithin_10
  exact T_ret rfl
def f_X11_needWithin (x0 : Int32) (x1 : Int32) (x2 : Int32) (σ : eMem) : Option ((Nat ⊕ Unit) × eMem) :=
  if x0 < x1 then
    f_X11_needWithin_10  σ
  else
    if x0 ≤ x2 then
      some (.inr (), σ)
    else
      f_X11_needWithin_10  σ
set_option maxHeartbeats 4000000 in
set_option maxRecDepth 20000 in
theorem s_X11_needWithin (x0 : Int32) (x1 : Int32) (x2 : Int32) (σ : eMem) : ∀ r, f_X11_needWithin x0 x1 x2 σ = some r → Ew false 1 126 [.inl (x0), .inl (x1), .inl (x2)] (hp σ) (cX iU r) := by
  refine T_meth (md := m_X11_needWithin) (d0 := 0) (cv := (cX iU)) rfl (lb rfl) (lb rfl) ?_
  unfold f_X11_needWithin
  show Snd false none _ _ _ _ (0, [(0, .inl (x0)), (1, .inl (x1)), (2, .inl (x2))], [], hp σ, 0, 0)
  refine T_go (S' := (2, [(0, .inl (x0)), (1, .inl (x1)), (2, .inl (x2))], [.inl (x1), .inl (x0)], hp σ, 0, 0)) 2 rfl ?_
  refine T_icmp_lt 10 rfl rfl (fun _ => ?_) (fun _ => ?_)
  · refine T_loc (ls' := []) [] rfl ?_
    exact s_X11_needWithin_10  σ
  · refine T_go (S' := (7, [(0, .inl (x0)), (1, .inl (x1)), (2, .inl (x2))], [.inl (x2), .inl (x0)], hp σ, 0, 0)) 2 rfl ?_
    refine T_icmp_le 20 rfl rfl (fun _ => ?_) (fun _ => ?_)
    · exact T_ret rfl
    · refine T_loc (ls' := []) [] rfl ?_
      exact s_X11_needWithin_10  σ
def f_X11_store (x0 : Nat) (x1 : Int32) (x2 : Int32) (x3 : Int32) (σ : eMem) : Option ((Nat ⊕ Int32) × eMem) :=
  eThen (f_X11_needCore x1 σ) (fun v1 σ2 =>
    eThen (f_X11_needLine x2 σ2) (fun v3 σ4 =>
      eThen (f_X11_needWithin x3 (0 : Int32) (999 : Int32) σ4) (fun v5 σ6 =>
        if (KH x0).1 = 9 then
          if (KH (RH x0 3)).1 = 14 ∧ eix x1 (KH (RH x0 3)).2 = true then
            if (KH (RH (RH x0 3) x1.toNatClampNeg)).1 = 0 then
              Option.bind (f_X0_hasRoomForStore (RH (RH x0 3) x1.toNatClampNeg) x2 σ6) (fun r7 =>
                if ¬ r7.1 = (0 : Int32) then
                  if (KH x0).1 = 9 then
                    if (KH (RH x0 3)).1 = 14 ∧ eix x1 (KH (RH x0 3)).2 = true then
                      if (KH (RH (RH x0 3) x1.toNatClampNeg)).1 = 0 then
                        Option.bind (f_X0_keepStore (RH (RH x0 3) x1.toNatClampNeg) x2 x3 r7.2) (fun r8 =>
                          some (.inr r8.1, r8.2)
                          )
                      else none
                    else none
                  else none
                else
                  some (.inl 2, r7.2)
                )
            else none
          else none
        else none
        )
      )
    )
set_option maxHeartbeats 4000000 in
set_option maxRecDepth 20000 in
theorem s_X11_store (x0 : Nat) (x1 : Int32) (x2 : Int32) (x3 : Int32) (σ : eMem) : ∀ r, f_X11_store x0 x1 x2 x3 σ = some r → Ew false 4 99 [.inr (.inr (x0)), .inl (x1), .inl (x2), .inl (x3)] (hp σ) (cX iI r) := by
  refine T_meth (md := m_X11_store) (d0 := 3) (cv := (cX iI)) rfl (lb rfl) (lb rfl) ?_
  unfold f_X11_store
  show Snd false none _ _ _ _ (0, [(0, .inr (.inr (x0))), (1, .inl (x1)), (2, .inl (x2)), (3, .inl (x3))], [], hp σ, 0, 0)
  refine T_go (S' := (1, [(0, .inr (.inr (x0))), (1, .inl (x1)), (2, .inl (x2)), (3, .inl (x3))], [.inl (x1)], hp σ, 0, 0)) 1 rfl ?_
  refine T_csx (i := iU) (as := [.inl (x1)]) (rest := []) (st := [.inl (x1)]) rfl rfl (lb rfl) rfl rfl ⟨lb rfl, lb rfl, lb rfl, lb rfl⟩ (fun _ h => Ew_le (lb rfl) (s_X11_needCore x1 σ _ h)) (fun v1 σ2 => ?_)
  show Snd false none _ _ _ (cX iI) (4, [(0, .inr (.inr (x0))), (1, .inl (x1)), (2, .inl (x2)), (3, .inl (x3))], [], hp σ2, 1, 6)
  refine T_go (S' := (5, [(0, .inr (.inr (x0))), (1, .inl (x1)), (2, .inl (x2)), (3, .inl (x3))], [.inl (x2)], hp σ2, 1, 6)) 1 rfl ?_
  refine T_csx (i := iU) (as := [.inl (x2)]) (rest := []) (st := [.inl (x2)]) rfl rfl (lb rfl) rfl rfl ⟨lb rfl, lb rfl, lb rfl, lb rfl⟩ (fun _ h => Ew_le (lb rfl) (s_X11_needLine x2 σ2 _ h)) (fun v3 σ4 => ?_)
  show Snd false none _ _ _ (cX iI) (8, [(0, .inr (.inr (x0))), (1, .inl (x1)), (2, .inl (x2)), (3, .inl (x3))], [], hp σ4, 2, 12)
  refine T_go (S' := (13, [(0, .inr (.inr (x0))), (1, .inl (x1)), (2, .inl (x2)), (3, .inl (x3))], [.inl ((999 : Int32)), .inl ((0 : Int32)), .inl (x3)], hp σ4, 2, 12)) 3 rfl ?_
  refine T_csx (i := iU) (as := [.inl (x3), .inl ((0 : Int32)), .inl ((999 : Int32))]) (rest := []) (st := [.inl ((999 : Int32)), .inl ((0 : Int32)), .inl (x3)]) rfl rfl (lb rfl) rfl rfl ⟨lb rfl, lb rfl, lb rfl, lb rfl⟩ (fun _ h => Ew_le (lb rfl) (s_X11_needWithin x3 (0 : Int32) (999 : Int32) σ4 _ h)) (fun v5 σ6 => ?_)
  show Snd false none _ _ _ (cX iI) (16, [(0, .inr (.inr (x0))), (1, .inl (x1)), (2, .inl (x2)), (3, .inl (x3))], [], hp σ6, 3, 18)
  refine T_go (S' := (17, [(0, .inr (.inr (x0))), (1, .inl (x1)), (2, .inl (x2)), (3, .inl (x3))], [.inr (.inr (x0))], hp σ6, 3, 18)) 1 rfl ?_
  refine T_getR rfl (fun _ => ?_)
  refine T_go (S' := (21, [(0, .inr (.inr (x0))), (1, .inl (x1)), (2, .inl (x2)), (3, .inl (x3))], [.inl (x1), .inr (.inr ((RH x0 3)))], hp σ6, 3, 18)) 1 rfl ?_
  refine T_aald rfl (fun _ => ?_)
  refine T_go (S' := (23, [(0, .inr (.inr (x0))), (1, .inl (x1)), (2, .inl (x2)), (3, .inl (x3))], [.inl (x2), .inr (.inr ((RH (RH x0 3) x1.toNatClampNeg)))], hp σ6, 3, 18)) 1 rfl ?_
  refine T_cv (i := iI) (as := [.inr (.inr ((RH (RH x0 3) x1.toNatClampNeg))), .inl (x2)]) (rest := []) (st := [.inl (x2), .inr (.inr ((RH (RH x0 3) x1.toNatClampNeg)))]) rfl rfl rfl ⟨lb rfl, lb rfl, lb rfl, lb rfl⟩ (fun _ h => Ew_le (lb rfl) (s_X0_hasRoomForStore (RH (RH x0 3) x1.toNatClampNeg) x2 σ6 _ h)) (fun _ r7 => ?_)
  show Snd false none _ _ _ (cX iI) (26, [(0, .inr (.inr (x0))), (1, .inl (x1)), (2, .inl (x2)), (3, .inl (x3))], [.inl (r7.1)], hp r7.2, 3, 18)
  refine T_if_ne 39 rfl rfl (fun _ => ?_) (fun _ => ?_)
  · refine T_go (S' := (40, [(0, .inr (.inr (x0))), (1, .inl (x1)), (2, .inl (x2)), (3, .inl (x3))], [.inr (.inr (x0))], hp r7.2, 3, 18)) 1 rfl ?_
    refine T_getR rfl (fun _ => ?_)
    refine T_go (S' := (44, [(0, .inr (.inr (x0))), (1, .inl (x1)), (2, .inl (x2)), (3, .inl (x3))], [.inl (x1), .inr (.inr ((RH x0 3)))], hp r7.2, 3, 18)) 1 rfl ?_
    refine T_aald rfl (fun _ => ?_)
    refine T_go (S' := (47, [(0, .inr (.inr (x0))), (1, .inl (x1)), (2, .inl (x2)), (3, .inl (x3))], [.inl (x3), .inl (x2), .inr (.inr ((RH (RH x0 3) x1.toNatClampNeg)))], hp r7.2, 3, 18)) 2 rfl ?_
    refine T_cv (i := iI) (as := [.inr (.inr ((RH (RH x0 3) x1.toNatClampNeg))), .inl (x2), .inl (x3)]) (rest := []) (st := [.inl (x3), .inl (x2), .inr (.inr ((RH (RH x0 3) x1.toNatClampNeg)))]) rfl rfl rfl ⟨lb rfl, lb rfl, lb rfl, lb rfl⟩ (fun _ h => Ew_le (lb rfl) (s_X0_keepStore (RH (RH x0 3) x1.toNatClampNeg) x2 x3 r7.2 _ h)) (fun _ r8 => ?_)
    show Snd false none _ _ _ (cX iI) (50, [(0, .inr (.inr (x0))), (1, .inl (x1)), (2, .inl (x2)), (3, .inl (x3))], [.inl (r8.1)], hp r8.2, 3, 18)
    exact T_ret rfl
  · exact T_ret rfl
def f_X11_drain (x0 : Nat) (x1 : Int32) (σ : eMem) : Option ((Nat ⊕ Int32) × eMem) :=
  eThen (f_X11_needCore x1 σ) (fun v1 σ2 =>
    if (KH x0).1 = 9 then
      if (KH (RH x0 3)).1 = 14 ∧ eix x1 (KH (RH x0 3)).2 = true then
        if (KH (RH (RH x0 3) x1.toNatClampNeg)).1 = 0 then
          Option.bind (f_X0_doOldestStore (RH (RH x0 3) x1.toNatClampNeg) σ2) (fun r3 =>
            if eB r3.1 = true then some (.inr r3.1, r3.2) else none
            )
        else none
      else none
    else none
    )
set_option maxHeartbeats 4000000 in
set_option maxRecDepth 20000 in
theorem s_X11_drain (x0 : Nat) (x1 : Int32) (σ : eMem) : ∀ r, f_X11_drain x0 x1 σ = some r → Ew false 6 100 [.inr (.inr (x0)), .inl (x1)] (hp σ) (cX iI r) := by
  refine T_meth (md := m_X11_drain) (d0 := 5) (cv := (cX iI)) rfl (lb rfl) (lb rfl) ?_
  unfold f_X11_drain
  show Snd false none _ _ _ _ (0, [(0, .inr (.inr (x0))), (1, .inl (x1))], [], hp σ, 0, 0)
  refine T_go (S' := (1, [(0, .inr (.inr (x0))), (1, .inl (x1))], [.inl (x1)], hp σ, 0, 0)) 1 rfl ?_
  refine T_csx (i := iU) (as := [.inl (x1)]) (rest := []) (st := [.inl (x1)]) rfl rfl (lb rfl) rfl rfl ⟨lb rfl, lb rfl, lb rfl, lb rfl⟩ (fun _ h => Ew_le (lb rfl) (s_X11_needCore x1 σ _ h)) (fun v1 σ2 => ?_)
  show Snd false none _ _ _ (cX iI) (4, [(0, .inr (.inr (x0))), (1, .inl (x1))], [], hp σ2, 1, 6)
  refine T_go (S' := (5, [(0, .inr (.inr (x0))), (1, .inl (x1))], [.inr (.inr (x0))], hp σ2, 1, 6)) 1 rfl ?_
  refine T_getR rfl (fun _ => ?_)
  refine T_go (S' := (9, [(0, .inr (.inr (x0))), (1, .inl (x1))], [.inl (x1), .inr (.inr ((RH x0 3)))], hp σ2, 1, 6)) 1 rfl ?_
  refine T_aald rfl (fun _ => ?_)
  refine T_cv (i := iI) (as := [.inr (.inr ((RH (RH x0 3) x1.toNatClampNeg)))]) (rest := []) (st := [.inr (.inr ((RH (RH x0 3) x1.toNatClampNeg)))]) rfl rfl rfl ⟨lb rfl, lb rfl, lb rfl, lb rfl⟩ (fun _ h => Ew_le (lb rfl) (s_X0_doOldestStore (RH (RH x0 3) x1.toNatClampNeg) σ2 _ h)) (fun _ r3 => ?_)
  show Snd false none _ _ _ (cX iI) (13, [(0, .inr (.inr (x0))), (1, .inl (x1))], [.inl (r3.1)], hp r3.2, 1, 6)
  exact T_chkr rfl
def f_X11_fence_21 (s0 : Int32) (σ : eMem) : Option ((Nat ⊕ Int32) × eMem) :=
  if eB s0 = true then some (.inr s0, σ) else none
set_option maxHeartbeats 4000000 in
set_option maxRecDepth 20000 in
theorem s_X11_fence_21 (s0 : Int32) (σ : eMem) : Snd false none 2 m_X11_fence (f_X11_fence_21 s0 σ) (cX iI) (21, [], [.inl (s0)], hp σ, 1, 6) := by
  unfold f_X11_fence_21
  exact T_chkr rfl
def f_X11_fence (x0 : Nat) (x1 : Int32) (σ : eMem) : Option ((Nat ⊕ Int32) × eMem) :=
  eThen (f_X11_needCore x1 σ) (fun v1 σ2 =>
    if (KH x0).1 = 9 then
      if (KH (RH x0 3)).1 = 14 ∧ eix x1 (KH (RH x0 3)).2 = true then
        if (KH (RH (RH x0 3) x1.toNatClampNeg)).1 = 0 then
          if ¬ (σ2.1 (RH (RH x0 3) x1.toNatClampNeg) 7) = (0 : Int32) then
            f_X11_fence_21 (0 : Int32) σ2
          else
            f_X11_fence_21 (1 : Int32) σ2
        else none
      else none
    else none
    )
set_option maxHeartbeats 4000000 in
set_option maxRecDepth 20000 in
theorem s_X11_fence (x0 : Nat) (x1 : Int32) (σ : eMem) : ∀ r, f_X11_fence x0 x1 σ = some r → Ew false 3 101 [.inr (.inr (x0)), .inl (x1)] (hp σ) (cX iI r) := by
  refine T_meth (md := m_X11_fence) (d0 := 2) (cv := (cX iI)) rfl (lb rfl) (lb rfl) ?_
  unfold f_X11_fence
  show Snd false none _ _ _ _ (0, [(0, .inr (.inr (x0))), (1, .inl (x1))], [], hp σ, 0, 0)
  refine T_go (S' := (1, [(0, .inr (.inr (x0))), (1, .inl (x1))], [.inl (x1)], hp σ, 0, 0)) 1 rfl ?_
  refine T_csx (i := iU) (as := [.inl (x1)]) (rest := []) (st := [.inl (x1)]) rfl rfl (lb rfl) rfl rfl ⟨lb rfl, lb rfl, lb rfl, lb rfl⟩ (fun _ h => Ew_le (lb rfl) (s_X11_needCore x1 σ _ h)) (fun v1 σ2 => ?_)
  show Snd false none _ _ _ (cX iI) (4, [(0, .inr (.inr (x0))), (1, .inl (x1))], [], hp σ2, 1, 6)
  refine T_go (S' := (5, [(0, .inr (.inr (x0))), (1, .inl (x1))], [.inr (.inr (x0))], hp σ2, 1, 6)) 1 rfl ?_
  refine T_getR rfl (fun _ => ?_)
  refine T_go (S' := (9, [(0, .inr (.inr (x0))), (1, .inl (x1))], [.inl (x1), .inr (.inr ((RH x0 3)))], hp σ2, 1, 6)) 1 rfl ?_
  refine T_aald rfl (fun _ => ?_)
  refine T_getI rfl (fun _ => ?_)
  refine T_if_ne 20 rfl rfl (fun _ => ?_) (fun _ => ?_)
  · refine T_go (S' := (21, [(0, .inr (.inr (x0))), (1, .inl (x1))], [.inl ((0 : Int32))], hp σ2, 1, 6)) 1 rfl ?_
    refine T_loc (ls' := []) [] rfl ?_
    exact s_X11_fence_21 (0 : Int32) σ2
  · refine T_go (S' := (21, [(0, .inr (.inr (x0))), (1, .inl (x1))], [.inl ((1 : Int32))], hp σ2, 1, 6)) 2 rfl ?_
    refine T_loc (ls' := []) [] rfl ?_
    exact s_X11_fence_21 (1 : Int32) σ2
def f_X11_add (x0 : Nat) (x1 : Int32) (x2 : Int32) (x3 : Int32) (σ : eMem) : Option ((Nat ⊕ Int32) × eMem) :=
  eThen (f_X11_needCore x1 σ) (fun v1 σ2 =>
    eThen (f_X11_needLine x2 σ2) (fun v3 σ4 =>
      eThen (f_X11_needWithin x3 (1 : Int32) (9 : Int32) σ4) (fun v5 σ6 =>
        if (KH x0).1 = 9 then
          if (KH (RH x0 3)).1 = 14 ∧ eix x1 (KH (RH x0 3)).2 = true then
            if (KH (RH (RH x0 3) x1.toNatClampNeg)).1 = 0 then
              Option.bind (f_X0_isAtRest (RH (RH x0 3) x1.toNatClampNeg) σ6) (fun r7 =>
                if ¬ r7.1 = (0 : Int32) then
                  if (KH x0).1 = 9 then
                    if (KH (RH x0 3)).1 = 14 ∧ eix x1 (KH (RH x0 3)).2 = true then
                      if (KH (RH (RH x0 3) x1.toNatClampNeg)).1 = 0 then
                        Option.bind (f_X0_addAtOnce (RH (RH x0 3) x1.toNatClampNeg) x2 x3 r7.2) (fun r8 =>
                          some (.inr r8.1, r8.2)
                          )
                      else none
                    else none
                  else none
                else
                  some (.inl 2, r7.2)
                )
            else none
          else none
        else none
        )
      )
    )
set_option maxHeartbeats 4000000 in
set_option maxRecDepth 20000 in
theorem s_X11_add (x0 : Nat) (x1 : Int32) (x2 : Int32) (x3 : Int32) (σ : eMem) : ∀ r, f_X11_add x0 x1 x2 x3 σ = some r → Ew false 6 102 [.inr (.inr (x0)), .inl (x1), .inl (x2), .inl (x3)] (hp σ) (cX iI r) := by
  refine T_meth (md := m_X11_add) (d0 := 5) (cv := (cX iI)) rfl (lb rfl) (lb rfl) ?_
  unfold f_X11_add
  show Snd false none _ _ _ _ (0, [(0, .inr (.inr (x0))), (1, .inl (x1)), (2, .inl (x2)), (3, .inl (x3))], [], hp σ, 0, 0)
  refine T_go (S' := (1, [(0, .inr (.inr (x0))), (1, .inl (x1)), (2, .inl (x2)), (3, .inl (x3))], [.inl (x1)], hp σ, 0, 0)) 1 rfl ?_
  refine T_csx (i := iU) (as := [.inl (x1)]) (rest := []) (st := [.inl (x1)]) rfl rfl (lb rfl) rfl rfl ⟨lb rfl, lb rfl, lb rfl, lb rfl⟩ (fun _ h => Ew_le (lb rfl) (s_X11_needCore x1 σ _ h)) (fun v1 σ2 => ?_)
  show Snd false none _ _ _ (cX iI) (4, [(0, .inr (.inr (x0))), (1, .inl (x1)), (2, .inl (x2)), (3, .inl (x3))], [], hp σ2, 1, 6)
  refine T_go (S' := (5, [(0, .inr (.inr (x0))), (1, .inl (x1)), (2, .inl (x2)), (3, .inl (x3))], [.inl (x2)], hp σ2, 1, 6)) 1 rfl ?_
  refine T_csx (i := iU) (as := [.inl (x2)]) (rest := []) (st := [.inl (x2)]) rfl rfl (lb rfl) rfl rfl ⟨lb rfl, lb rfl, lb rfl, lb rfl⟩ (fun _ h => Ew_le (lb rfl) (s_X11_needLine x2 σ2 _ h)) (fun v3 σ4 => ?_)
  show Snd false none _ _ _ (cX iI) (8, [(0, .inr (.inr (x0))), (1, .inl (x1)), (2, .inl (x2)), (3, .inl (x3))], [], hp σ4, 2, 12)
  refine T_go (S' := (12, [(0, .inr (.inr (x0))), (1, .inl (x1)), (2, .inl (x2)), (3, .inl (x3))], [.inl ((9 : Int32)), .inl ((1 : Int32)), .inl (x3)], hp σ4, 2, 12)) 3 rfl ?_
  refine T_csx (i := iU) (as := [.inl (x3), .inl ((1 : Int32)), .inl ((9 : Int32))]) (rest := []) (st := [.inl ((9 : Int32)), .inl ((1 : Int32)), .inl (x3)]) rfl rfl (lb rfl) rfl rfl ⟨lb rfl, lb rfl, lb rfl, lb rfl⟩ (fun _ h => Ew_le (lb rfl) (s_X11_needWithin x3 (1 : Int32) (9 : Int32) σ4 _ h)) (fun v5 σ6 => ?_)
  show Snd false none _ _ _ (cX iI) (15, [(0, .inr (.inr (x0))), (1, .inl (x1)), (2, .inl (x2)), (3, .inl (x3))], [], hp σ6, 3, 18)
  refine T_go (S' := (16, [(0, .inr (.inr (x0))), (1, .inl (x1)), (2, .inl (x2)), (3, .inl (x3))], [.inr (.inr (x0))], hp σ6, 3, 18)) 1 rfl ?_
  refine T_getR rfl (fun _ => ?_)
  refine T_go (S' := (20, [(0, .inr (.inr (x0))), (1, .inl (x1)), (2, .inl (x2)), (3, .inl (x3))], [.inl (x1), .inr (.inr ((RH x0 3)))], hp σ6, 3, 18)) 1 rfl ?_
  refine T_aald rfl (fun _ => ?_)
  refine T_cv (i := iI) (as := [.inr (.inr ((RH (RH x0 3) x1.toNatClampNeg)))]) (rest := []) (st := [.inr (.inr ((RH (RH x0 3) x1.toNatClampNeg)))]) rfl rfl rfl ⟨lb rfl, lb rfl, lb rfl, lb rfl⟩ (fun _ h => Ew_le (lb rfl) (s_X0_isAtRest (RH (RH x0 3) x1.toNatClampNeg) σ6 _ h)) (fun _ r7 => ?_)
  show Snd false none _ _ _ (cX iI) (24, [(0, .inr (.inr (x0))), (1, .inl (x1)), (2, .inl (x2)), (3, .inl (x3))], [.inl (r7.1)], hp r7.2, 3, 18)
  refine T_if_ne 37 rfl rfl (fun _ => ?_) (fun _ => ?_)
  · refine T_go (S' := (38, [(0, .inr (.inr (x0))), (1, .inl (x1)), (2, .inl (x2)), (3, .inl (x3))], [.inr (.inr (x0))], hp r7.2, 3, 18)) 1 rfl ?_
    refine T_getR rfl (fun _ => ?_)
    refine T_go (S' := (42, [(0, .inr (.inr (x0))), (1, .inl (x1)), (2, .inl (x2)), (3, .inl (x3))], [.inl (x1), .inr (.inr ((RH x0 3)))], hp r7.2, 3, 18)) 1 rfl ?_
    refine T_aald rfl (fun _ => ?_)
    refine T_go (S' := (45, [(0, .inr (.inr (x0))), (1, .inl (x1)), (2, .inl (x2)), (3, .inl (x3))], [.inl (x3), .inl (x2), .inr (.inr ((RH (RH x0 3) x1.toNatClampNeg)))], hp r7.2, 3, 18)) 2 rfl ?_
    refine T_cv (i := iI) (as := [.inr (.inr ((RH (RH x0 3) x1.toNatClampNeg))), .inl (x2), .inl (x3)]) (rest := []) (st := [.inl (x3), .inl (x2), .inr (.inr ((RH (RH x0 3) x1.toNatClampNeg)))]) rfl rfl rfl ⟨lb rfl, lb rfl, lb rfl, lb rfl⟩ (fun _ h => Ew_le (lb rfl) (s_X0_addAtOnce (RH (RH x0 3) x1.toNatClampNeg) x2 x3 r7.2 _ h)) (fun _ r8 => ?_)
    show Snd false none _ _ _ (cX iI) (48, [(0, .inr (.inr (x0))), (1, .inl (x1)), (2, .inl (x2)), (3, .inl (x3))], [.inl (r8.1)], hp r8.2, 3, 18)
    exact T_ret rfl
  · exact T_ret rfl
def f_X11_begin (x0 : Nat) (x1 : Int32) (σ : eMem) : Option ((Nat ⊕ Int32) × eMem) :=
  eThen (f_X11_needCore x1 σ) (fun v1 σ2 =>
    if (KH x0).1 = 9 then
      if (KH (RH x0 3)).1 = 14 ∧ eix x1 (KH (RH x0 3)).2 = true then
        if (KH (RH (RH x0 3) x1.toNatClampNeg)).1 = 0 then
          Option.bind (f_X0_isAtRest (RH (RH x0 3) x1.toNatClampNeg) σ2) (fun r3 =>
            if ¬ r3.1 = (0 : Int32) then
              if (KH x0).1 = 9 then
                if (KH (RH x0 3)).1 = 14 ∧ eix x1 (KH (RH x0 3)).2 = true then
                  if (KH (RH (RH x0 3) x1.toNatClampNeg)).1 = 0 then
                    if (KH (RH (RH (RH x0 3) x1.toNatClampNeg) 8)).1 = 8 then
                      Option.bind (f_X10_open (RH (RH (RH x0 3) x1.toNatClampNeg) 8) r3.2) (fun r4 =>
                        some (.inr r4.1, r4.2)
                        )
                    else none
                  else none
                else none
              else none
            else
              some (.inl 2, r3.2)
            )
        else none
      else none
    else none
    )
set_option maxHeartbeats 4000000 in
set_option maxRecDepth 20000 in
theorem s_X11_begin (x0 : Nat) (x1 : Int32) (σ : eMem) : ∀ r, f_X11_begin x0 x1 σ = some r → Ew false 3 103 [.inr (.inr (x0)), .inl (x1)] (hp σ) (cX iI r) := by
  refine T_meth (md := m_X11_begin) (d0 := 2) (cv := (cX iI)) rfl (lb rfl) (lb rfl) ?_
  unfold f_X11_begin
  show Snd false none _ _ _ _ (0, [(0, .inr (.inr (x0))), (1, .inl (x1))], [], hp σ, 0, 0)
  refine T_go (S' := (1, [(0, .inr (.inr (x0))), (1, .inl (x1))], [.inl (x1)], hp σ, 0, 0)) 1 rfl ?_
  refine T_csx (i := iU) (as := [.inl (x1)]) (rest := []) (st := [.inl (x1)]) rfl rfl (lb rfl) rfl rfl ⟨lb rfl, lb rfl, lb rfl, lb rfl⟩ (fun _ h => Ew_le (lb rfl) (s_X11_needCore x1 σ _ h)) (fun v1 σ2 => ?_)
  show Snd false none _ _ _ (cX iI) (4, [(0, .inr (.inr (x0))), (1, .inl (x1))], [], hp σ2, 1, 6)
  refine T_go (S' := (5, [(0, .inr (.inr (x0))), (1, .inl (x1))], [.inr (.inr (x0))], hp σ2, 1, 6)) 1 rfl ?_
  refine T_getR rfl (fun _ => ?_)
  refine T_go (S' := (9, [(0, .inr (.inr (x0))), (1, .inl (x1))], [.inl (x1), .inr (.inr ((RH x0 3)))], hp σ2, 1, 6)) 1 rfl ?_
  refine T_aald rfl (fun _ => ?_)
  refine T_cv (i := iI) (as := [.inr (.inr ((RH (RH x0 3) x1.toNatClampNeg)))]) (rest := []) (st := [.inr (.inr ((RH (RH x0 3) x1.toNatClampNeg)))]) rfl rfl rfl ⟨lb rfl, lb rfl, lb rfl, lb rfl⟩ (fun _ h => Ew_le (lb rfl) (s_X0_isAtRest (RH (RH x0 3) x1.toNatClampNeg) σ2 _ h)) (fun _ r3 => ?_)
  show Snd false none _ _ _ (cX iI) (13, [(0, .inr (.inr (x0))), (1, .inl (x1))], [.inl (r3.1)], hp r3.2, 1, 6)
  refine T_if_ne 26 rfl rfl (fun _ => ?_) (fun _ => ?_)
  · refine T_go (S' := (27, [(0, .inr (.inr (x0))), (1, .inl (x1))], [.inr (.inr (x0))], hp r3.2, 1, 6)) 1 rfl ?_
    refine T_getR rfl (fun _ => ?_)
    refine T_go (S' := (31, [(0, .inr (.inr (x0))), (1, .inl (x1))], [.inl (x1), .inr (.inr ((RH x0 3)))], hp r3.2, 1, 6)) 1 rfl ?_
    refine T_aald rfl (fun _ => ?_)
    refine T_getR rfl (fun _ => ?_)
    refine T_cv (i := iI) (as := [.inr (.inr ((RH (RH (RH x0 3) x1.toNatClampNeg) 8)))]) (rest := []) (st := [.inr (.inr ((RH (RH (RH x0 3) x1.toNatClampNeg) 8)))]) rfl rfl rfl ⟨lb rfl, lb rfl, lb rfl, lb rfl⟩ (fun _ h => Ew_le (lb rfl) (s_X10_open (RH (RH (RH x0 3) x1.toNatClampNeg) 8) r3.2 _ h)) (fun _ r4 => ?_)
    show Snd false none _ _ _ (cX iI) (38, [(0, .inr (.inr (x0))), (1, .inl (x1))], [.inl (r4.1)], hp r4.2, 1, 6)
    exact T_ret rfl
  · exact T_ret rfl
def f_X11_end (x0 : Nat) (x1 : Int32) (σ : eMem) : Option ((Nat ⊕ Int32) × eMem) :=
  eThen (f_X11_needCore x1 σ) (fun v1 σ2 =>
    if (KH x0).1 = 9 then
      if (KH (RH x0 3)).1 = 14 ∧ eix x1 (KH (RH x0 3)).2 = true then
        if (KH (RH (RH x0 3) x1.toNatClampNeg)).1 = 0 then
          if (KH (RH (RH (RH x0 3) x1.toNatClampNeg) 8)).1 = 8 then
            if ¬ (σ2.1 (RH (RH (RH x0 3) x1.toNatClampNeg) 8) 0) = (0 : Int32) then
              if (KH x0).1 = 9 then
                if (KH (RH x0 3)).1 = 14 ∧ eix x1 (KH (RH x0 3)).2 = true then
                  if (KH (RH (RH x0 3) x1.toNatClampNeg)).1 = 0 then
                    Option.bind (f_X0_endTransaction (RH (RH x0 3) x1.toNatClampNeg) σ2) (fun r3 =>
                      some (.inr r3.1, r3.2)
                      )
                  else none
                else none
              else none
            else
              some (.inl 2, σ2)
          else none
        else none
      else none
    else none
    )
set_option maxHeartbeats 4000000 in
set_option maxRecDepth 20000 in
theorem s_X11_end (x0 : Nat) (x1 : Int32) (σ : eMem) : ∀ r, f_X11_end x0 x1 σ = some r → Ew false 7 104 [.inr (.inr (x0)), .inl (x1)] (hp σ) (cX iI r) := by
  refine T_meth (md := m_X11_end) (d0 := 6) (cv := (cX iI)) rfl (lb rfl) (lb rfl) ?_
  unfold f_X11_end
  show Snd false none _ _ _ _ (0, [(0, .inr (.inr (x0))), (1, .inl (x1))], [], hp σ, 0, 0)
  refine T_go (S' := (1, [(0, .inr (.inr (x0))), (1, .inl (x1))], [.inl (x1)], hp σ, 0, 0)) 1 rfl ?_
  refine T_csx (i := iU) (as := [.inl (x1)]) (rest := []) (st := [.inl (x1)]) rfl rfl (lb rfl) rfl rfl ⟨lb rfl, lb rfl, lb rfl, lb rfl⟩ (fun _ h => Ew_le (lb rfl) (s_X11_needCore x1 σ _ h)) (fun v1 σ2 => ?_)
  show Snd false none _ _ _ (cX iI) (4, [(0, .inr (.inr (x0))), (1, .inl (x1))], [], hp σ2, 1, 6)
  refine T_go (S' := (5, [(0, .inr (.inr (x0))), (1, .inl (x1))], [.inr (.inr (x0))], hp σ2, 1, 6)) 1 rfl ?_
  refine T_getR rfl (fun _ => ?_)
  refine T_go (S' := (9, [(0, .inr (.inr (x0))), (1, .inl (x1))], [.inl (x1), .inr (.inr ((RH x0 3)))], hp σ2, 1, 6)) 1 rfl ?_
  refine T_aald rfl (fun _ => ?_)
  refine T_getR rfl (fun _ => ?_)
  refine T_getI rfl (fun _ => ?_)
  refine T_if_ne 29 rfl rfl (fun _ => ?_) (fun _ => ?_)
  · refine T_go (S' := (30, [(0, .inr (.inr (x0))), (1, .inl (x1))], [.inr (.inr (x0))], hp σ2, 1, 6)) 1 rfl ?_
    refine T_getR rfl (fun _ => ?_)
    refine T_go (S' := (34, [(0, .inr (.inr (x0))), (1, .inl (x1))], [.inl (x1), .inr (.inr ((RH x0 3)))], hp σ2, 1, 6)) 1 rfl ?_
    refine T_aald rfl (fun _ => ?_)
    refine T_cv (i := iI) (as := [.inr (.inr ((RH (RH x0 3) x1.toNatClampNeg)))]) (rest := []) (st := [.inr (.inr ((RH (RH x0 3) x1.toNatClampNeg)))]) rfl rfl rfl ⟨lb rfl, lb rfl, lb rfl, lb rfl⟩ (fun _ h => Ew_le (lb rfl) (s_X0_endTransaction (RH (RH x0 3) x1.toNatClampNeg) σ2 _ h)) (fun _ r3 => ?_)
    show Snd false none _ _ _ (cX iI) (38, [(0, .inr (.inr (x0))), (1, .inl (x1))], [.inl (r3.1)], hp r3.2, 1, 6)
    exact T_ret rfl
  · exact T_ret rfl
def f_X11_deliverFirst_62 (x3 : Int32) (σ : eMem) : Option (Int32 × eMem) :=
  Option.bind (f_X4_lineOf x3 σ) (fun r1 =>
    some (r1.1, r1.2)
    )
set_option maxHeartbeats 4000000 in
set_option maxRecDepth 20000 in
theorem s_X11_deliverFirst_62 (x3 : Int32) (σ : eMem) : Snd false none 5 m_X11_deliverFirst (f_X11_deliverFirst_62 x3 σ) (cN iI) (62, [(3, .inl (x3))], [], hp σ, 0, 0) := by
  unfold f_X11_deliverFirst_62
  refine T_go (S' := (63, [(3, .inl (x3))], [.inl (x3)], hp σ, 0, 0)) 1 rfl ?_
  refine T_cs (i := iI) (as := [.inl (x3)]) (rest := []) (st := [.inl (x3)]) rfl (lb rfl) rfl rfl ⟨lb rfl, lb rfl, lb rfl, lb rfl⟩ (fun _ h => Ew_le (lb rfl) (s_X4_lineOf x3 σ _ h)) (fun r1 => ?_)
  show Snd false none _ _ _ (cN iI) (66, [(3, .inl (x3))], [.inl (r1.1)], hp r1.2, 0, 0)
  exact T_ret rfl
def f_X11_deliverFirst_39 (x0 : Nat) (x1 : Int32) (x3 : Int32) (σ : eMem) : Option (Int32 × eMem) :=
  if ¬ x1 = (0 : Int32) then
    if (KH x0).1 = 9 then
      if (KH (RH x0 2)).1 = 1 then
        Option.bind (f_X1_receiveAnswer (RH x0 2) x3 σ) (fun r1 =>
          f_X11_deliverFirst_62 x3 r1.2
          )
      else none
    else none
  else
    if (KH x0).1 = 9 then
      if (KH (RH x0 2)).1 = 1 then
        Option.bind (f_X1_receiveRequest (RH x0 2) x3 σ) (fun r2 =>
          f_X11_deliverFirst_62 x3 r2.2
          )
      else none
    else none
set_option maxHeartbeats 4000000 in
set_option maxRecDepth 20000 in
theorem s_X11_deliverFirst_39 (x0 : Nat) (x1 : Int32) (x3 : Int32) (σ : eMem) : Snd false none 5 m_X11_deliverFirst (f_X11_deliverFirst_39 x0 x1 x3 σ) (cN iI) (39, [(0, .inr (.inr (x0))), (1, .inl (x1)), (3, .inl (x3))], [], hp σ, 0, 0) := by
  unfold f_X11_deliverFirst_39
  refine T_go (S' := (40, [(0, .inr (.inr (x0))), (1, .inl (x1)), (3, .inl (x3))], [.inl (x1)], hp σ, 0, 0)) 1 rfl ?_
  refine T_if_ne 54 rfl rfl (fun _ => ?_) (fun _ => ?_)
  · refine T_go (S' := (55, [(0, .inr (.inr (x0))), (1, .inl (x1)), (3, .inl (x3))], [.inr (.inr (x0))], hp σ, 0, 0)) 1 rfl ?_
    refine T_getR rfl (fun _ => ?_)
    refine T_go (S' := (59, [(0, .inr (.inr (x0))), (1, .inl (x1)), (3, .inl (x3))], [.inl (x3), .inr (.inr ((RH x0 2)))], hp σ, 0, 0)) 1 rfl ?_
    refine T_cv (i := iU) (as := [.inr (.inr ((RH x0 2))), .inl (x3)]) (rest := []) (st := [.inl (x3), .inr (.inr ((RH x0 2)))]) rfl rfl rfl ⟨lb rfl, lb rfl, lb rfl, lb rfl⟩ (fun _ h => Ew_le (lb rfl) (s_X1_receiveAnswer (RH x0 2) x3 σ _ h)) (fun _ r1 => ?_)
    show Snd false none _ _ _ (cN iI) (62, [(0, .inr (.inr (x0))), (1, .inl (x1)), (3, .inl (x3))], [], hp r1.2, 0, 0)
    refine T_loc (ls' := [(3, .inl (x3))]) [2] rfl ?_
    exact s_X11_deliverFirst_62 x3 r1.2
  · refine T_go (S' := (44, [(0, .inr (.inr (x0))), (1, .inl (x1)), (3, .inl (x3))], [.inr (.inr (x0))], hp σ, 0, 0)) 1 rfl ?_
    refine T_getR rfl (fun _ => ?_)
    refine T_go (S' := (48, [(0, .inr (.inr (x0))), (1, .inl (x1)), (3, .inl (x3))], [.inl (x3), .inr (.inr ((RH x0 2)))], hp σ, 0, 0)) 1 rfl ?_
    refine T_cv (i := iU) (as := [.inr (.inr ((RH x0 2))), .inl (x3)]) (rest := []) (st := [.inl (x3), .inr (.inr ((RH x0 2)))]) rfl rfl rfl ⟨lb rfl, lb rfl, lb rfl, lb rfl⟩ (fun _ h => Ew_le (lb rfl) (s_X1_receiveRequest (RH x0 2) x3 σ _ h)) (fun _ r2 => ?_)
    show Snd false none _ _ _ (cN iI) (51, [(0, .inr (.inr (x0))), (1, .inl (x1)), (3, .inl (x3))], [], hp r2.2, 0, 0)
    refine T_go (S' := (62, [(0, .inr (.inr (x0))), (1, .inl (x1)), (3, .inl (x3))], [], hp r2.2, 0, 0)) 1 rfl ?_
    refine T_loc (ls' := [(3, .inl (x3))]) [2] rfl ?_
    exact s_X11_deliverFirst_62 x3 r2.2
def f_X11_deliverFirst (x0 : Nat) (x1 : Int32) (x2 : Int32) (σ : eMem) : Option (Int32 × eMem) :=
  if (KH x0).1 = 9 then
    if (KH (RH x0 1)).1 = 3 then
      Option.bind (f_X3_take (RH x0 1) x1 x2 σ) (fun r1 =>
        if ¬ r1.1 = (-1 : Int32) then
          if x2 < (0 : Int32) then
            f_X11_deliverFirst_39 x0 x1 r1.1 r1.2
          else
            if (4 : Int32) ≤ x2 then
              f_X11_deliverFirst_39 x0 x1 r1.1 r1.2
            else
              if (KH x0).1 = 9 then
                if (KH (RH x0 3)).1 = 14 ∧ eix x2 (KH (RH x0 3)).2 = true then
                  if (KH (RH (RH x0 3) x2.toNatClampNeg)).1 = 0 then
                    Option.bind (f_X0_receive (RH (RH x0 3) x2.toNatClampNeg) r1.1 r1.2) (fun r2 =>
                      f_X11_deliverFirst_62 r1.1 r2.2
                      )
                  else none
                else none
              else none
        else
          some ((-1 : Int32), r1.2)
        )
    else none
  else none
set_option maxHeartbeats 4000000 in
set_option maxRecDepth 20000 in
theorem s_X11_deliverFirst (x0 : Nat) (x1 : Int32) (x2 : Int32) (σ : eMem) : ∀ r, f_X11_deliverFirst x0 x1 x2 σ = some r → Ew false 6 127 [.inr (.inr (x0)), .inl (x1), .inl (x2)] (hp σ) (cN iI r) := by
  refine T_meth (md := m_X11_deliverFirst) (d0 := 5) (cv := (cN iI)) rfl (lb rfl) (lb rfl) ?_
  unfold f_X11_deliverFirst
  show Snd false none _ _ _ _ (0, [(0, .inr (.inr (x0))), (1, .inl (x1)), (2, .inl (x2))], [], hp σ, 0, 0)
  refine T_go (S' := (1, [(0, .inr (.inr (x0))), (1, .inl (x1)), (2, .inl (x2))], [.inr (.inr (x0))], hp σ, 0, 0)) 1 rfl ?_
  refine T_getR rfl (fun _ => ?_)
  refine T_go (S' := (6, [(0, .inr (.inr (x0))), (1, .inl (x1)), (2, .inl (x2))], [.inl (x2), .inl (x1), .inr (.inr ((RH x0 1)))], hp σ, 0, 0)) 2 rfl ?_
  refine T_cv (i := iI) (as := [.inr (.inr ((RH x0 1))), .inl (x1), .inl (x2)]) (rest := []) (st := [.inl (x2), .inl (x1), .inr (.inr ((RH x0 1)))]) rfl rfl rfl ⟨lb rfl, lb rfl, lb rfl, lb rfl⟩ (fun _ h => Ew_le (lb rfl) (s_X3_take (RH x0 1) x1 x2 σ _ h)) (fun _ r1 => ?_)
  show Snd false none _ _ _ (cN iI) (9, [(0, .inr (.inr (x0))), (1, .inl (x1)), (2, .inl (x2))], [.inl (r1.1)], hp r1.2, 0, 0)
  refine T_go (S' := (12, [(3, .inl (r1.1)), (0, .inr (.inr (x0))), (1, .inl (x1)), (2, .inl (x2))], [.inl ((-1 : Int32)), .inl (r1.1)], hp r1.2, 0, 0)) 3 rfl ?_
  refine T_icmp_ne 17 rfl rfl (fun _ => ?_) (fun _ => ?_)
  · refine T_go (S' := (18, [(3, .inl (r1.1)), (0, .inr (.inr (x0))), (1, .inl (x1)), (2, .inl (x2))], [.inl (x2)], hp r1.2, 0, 0)) 1 rfl ?_
    refine T_if_lt 39 rfl rfl (fun _ => ?_) (fun _ => ?_)
    · refine T_loc (ls' := [(0, .inr (.inr (x0))), (1, .inl (x1)), (3, .inl (r1.1))]) [1, 2, 0] rfl ?_
      exact s_X11_deliverFirst_39 x0 x1 r1.1 r1.2
    · refine T_go (S' := (23, [(3, .inl (r1.1)), (0, .inr (.inr (x0))), (1, .inl (x1)), (2, .inl (x2))], [.inl ((4 : Int32)), .inl (x2)], hp r1.2, 0, 0)) 2 rfl ?_
      refine T_icmp_ge 39 rfl rfl (fun _ => ?_) (fun _ => ?_)
      · refine T_loc (ls' := [(0, .inr (.inr (x0))), (1, .inl (x1)), (3, .inl (r1.1))]) [1, 2, 0] rfl ?_
        exact s_X11_deliverFirst_39 x0 x1 r1.1 r1.2
      · refine T_go (S' := (27, [(3, .inl (r1.1)), (0, .inr (.inr (x0))), (1, .inl (x1)), (2, .inl (x2))], [.inr (.inr (x0))], hp r1.2, 0, 0)) 1 rfl ?_
        refine T_getR rfl (fun _ => ?_)
        refine T_go (S' := (31, [(3, .inl (r1.1)), (0, .inr (.inr (x0))), (1, .inl (x1)), (2, .inl (x2))], [.inl (x2), .inr (.inr ((RH x0 3)))], hp r1.2, 0, 0)) 1 rfl ?_
        refine T_aald rfl (fun _ => ?_)
        refine T_go (S' := (33, [(3, .inl (r1.1)), (0, .inr (.inr (x0))), (1, .inl (x1)), (2, .inl (x2))], [.inl (r1.1), .inr (.inr ((RH (RH x0 3) x2.toNatClampNeg)))], hp r1.2, 0, 0)) 1 rfl ?_
        refine T_cv (i := iU) (as := [.inr (.inr ((RH (RH x0 3) x2.toNatClampNeg))), .inl (r1.1)]) (rest := []) (st := [.inl (r1.1), .inr (.inr ((RH (RH x0 3) x2.toNatClampNeg)))]) rfl rfl rfl ⟨lb rfl, lb rfl, lb rfl, lb rfl⟩ (fun _ h => Ew_le (lb rfl) (s_X0_receive (RH (RH x0 3) x2.toNatClampNeg) r1.1 r1.2 _ h)) (fun _ r2 => ?_)
        show Snd false none _ _ _ (cN iI) (36, [(3, .inl (r1.1)), (0, .inr (.inr (x0))), (1, .inl (x1)), (2, .inl (x2))], [], hp r2.2, 0, 0)
        refine T_go (S' := (62, [(3, .inl (r1.1)), (0, .inr (.inr (x0))), (1, .inl (x1)), (2, .inl (x2))], [], hp r2.2, 0, 0)) 1 rfl ?_
        refine T_loc (ls' := [(3, .inl (r1.1))]) [0] rfl ?_
        exact s_X11_deliverFirst_62 r1.1 r2.2
  · refine T_go (S' := (16, [(3, .inl (r1.1)), (0, .inr (.inr (x0))), (1, .inl (x1)), (2, .inl (x2))], [.inl ((-1 : Int32))], hp r1.2, 0, 0)) 1 rfl ?_
    exact T_ret rfl
def f_X11_deliver (x0 : Nat) (x1 : Int32) (x2 : Int32) (σ : eMem) : Option ((Nat ⊕ Int32) × eMem) :=
  eThen (f_X11_needIndex x2 (5 : Int32) σ) (fun v1 σ2 =>
    eThen (f_X11_needWithin x1 (0 : Int32) (2 : Int32) σ2) (fun v3 σ4 =>
      if (KH x0).1 = 9 then
        if (KH (RH x0 1)).1 = 3 then
          Option.bind (f_X3_size (RH x0 1) x1 x2 σ4) (fun r5 =>
            if ¬ r5.1 = (0 : Int32) then
              if (KH x0).1 = 9 then
                Option.bind (f_X11_deliverFirst x0 x1 x2 r5.2) (fun r6 =>
                  some (.inr r6.1, r6.2)
                  )
              else none
            else
              some (.inl 2, r5.2)
            )
        else none
      else none
      )
    )
set_option maxHeartbeats 4000000 in
set_option maxRecDepth 20000 in
theorem s_X11_deliver (x0 : Nat) (x1 : Int32) (x2 : Int32) (σ : eMem) : ∀ r, f_X11_deliver x0 x1 x2 σ = some r → Ew false 7 105 [.inr (.inr (x0)), .inl (x1), .inl (x2)] (hp σ) (cX iI r) := by
  refine T_meth (md := m_X11_deliver) (d0 := 6) (cv := (cX iI)) rfl (lb rfl) (lb rfl) ?_
  unfold f_X11_deliver
  show Snd false none _ _ _ _ (0, [(0, .inr (.inr (x0))), (1, .inl (x1)), (2, .inl (x2))], [], hp σ, 0, 0)
  refine T_go (S' := (2, [(0, .inr (.inr (x0))), (1, .inl (x1)), (2, .inl (x2))], [.inl ((5 : Int32)), .inl (x2)], hp σ, 0, 0)) 2 rfl ?_
  refine T_csx (i := iU) (as := [.inl (x2), .inl ((5 : Int32))]) (rest := []) (st := [.inl ((5 : Int32)), .inl (x2)]) rfl rfl (lb rfl) rfl rfl ⟨lb rfl, lb rfl, lb rfl, lb rfl⟩ (fun _ h => Ew_le (lb rfl) (s_X11_needIndex x2 (5 : Int32) σ _ h)) (fun v1 σ2 => ?_)
  show Snd false none _ _ _ (cX iI) (5, [(0, .inr (.inr (x0))), (1, .inl (x1)), (2, .inl (x2))], [], hp σ2, 1, 6)
  refine T_go (S' := (8, [(0, .inr (.inr (x0))), (1, .inl (x1)), (2, .inl (x2))], [.inl ((2 : Int32)), .inl ((0 : Int32)), .inl (x1)], hp σ2, 1, 6)) 3 rfl ?_
  refine T_csx (i := iU) (as := [.inl (x1), .inl ((0 : Int32)), .inl ((2 : Int32))]) (rest := []) (st := [.inl ((2 : Int32)), .inl ((0 : Int32)), .inl (x1)]) rfl rfl (lb rfl) rfl rfl ⟨lb rfl, lb rfl, lb rfl, lb rfl⟩ (fun _ h => Ew_le (lb rfl) (s_X11_needWithin x1 (0 : Int32) (2 : Int32) σ2 _ h)) (fun v3 σ4 => ?_)
  show Snd false none _ _ _ (cX iI) (11, [(0, .inr (.inr (x0))), (1, .inl (x1)), (2, .inl (x2))], [], hp σ4, 2, 12)
  refine T_go (S' := (12, [(0, .inr (.inr (x0))), (1, .inl (x1)), (2, .inl (x2))], [.inr (.inr (x0))], hp σ4, 2, 12)) 1 rfl ?_
  refine T_getR rfl (fun _ => ?_)
  refine T_go (S' := (17, [(0, .inr (.inr (x0))), (1, .inl (x1)), (2, .inl (x2))], [.inl (x2), .inl (x1), .inr (.inr ((RH x0 1)))], hp σ4, 2, 12)) 2 rfl ?_
  refine T_cv (i := iI) (as := [.inr (.inr ((RH x0 1))), .inl (x1), .inl (x2)]) (rest := []) (st := [.inl (x2), .inl (x1), .inr (.inr ((RH x0 1)))]) rfl rfl rfl ⟨lb rfl, lb rfl, lb rfl, lb rfl⟩ (fun _ h => Ew_le (lb rfl) (s_X3_size (RH x0 1) x1 x2 σ4 _ h)) (fun _ r5 => ?_)
  show Snd false none _ _ _ (cX iI) (20, [(0, .inr (.inr (x0))), (1, .inl (x1)), (2, .inl (x2))], [.inl (r5.1)], hp r5.2, 2, 12)
  refine T_if_ne 33 rfl rfl (fun _ => ?_) (fun _ => ?_)
  · refine T_go (S' := (36, [(0, .inr (.inr (x0))), (1, .inl (x1)), (2, .inl (x2))], [.inl (x2), .inl (x1), .inr (.inr (x0))], hp r5.2, 2, 12)) 3 rfl ?_
    refine T_cv (i := iI) (as := [.inr (.inr (x0)), .inl (x1), .inl (x2)]) (rest := []) (st := [.inl (x2), .inl (x1), .inr (.inr (x0))]) rfl rfl rfl ⟨lb rfl, lb rfl, lb rfl, lb rfl⟩ (fun _ h => Ew_le (lb rfl) (s_X11_deliverFirst x0 x1 x2 r5.2 _ h)) (fun _ r6 => ?_)
    show Snd false none _ _ _ (cX iI) (39, [(0, .inr (.inr (x0))), (1, .inl (x1)), (2, .inl (x2))], [.inl (r6.1)], hp r6.2, 2, 12)
    exact T_ret rfl
  · exact T_ret rfl
