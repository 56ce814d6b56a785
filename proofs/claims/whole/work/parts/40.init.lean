/-! the constructors -/
abbrev eOp : Type := Nat × Nat × Nat × Nat × Int32
def hap : eOp → eH → eH
  | (0, a, _, _, _), h => (h.1 + 1, eupA h.2.1 h.1 (a, 0), eupA h.2.2.1 h.1 (fun _ => 0), eupA h.2.2.2.1 h.1 (fun _ => 0), h.2.2.2.2)
  | (1, a, n, _, _), h => (h.1 + 1, eupA h.2.1 h.1 (a, n), eupA h.2.2.1 h.1 (fun _ => 0), eupA h.2.2.2.1 h.1 (fun _ => 0), eupA h.2.2.2.2 h.1 (fun _ => 0))
  | (2, a, n, _, _), h => (h.1 + 1, eupA h.2.1 h.1 (a, n), eupA h.2.2.1 h.1 (fun _ => 0), eupA h.2.2.2.1 h.1 (fun _ => 0), h.2.2.2.2)
  | (3, n, k, _, _), h => (h.1 + 1 + n, (fun r => if h.1 ≤ r ∧ r < h.1 + 1 + n then (if r = h.1 then (17, n) else (11, k)) else h.2.1 r), (fun r => if h.1 ≤ r ∧ r < h.1 + 1 + n then (fun _ => 0) else h.2.2.1 r), eupA h.2.2.2.1 h.1 (fun j => if j < n then h.1 + 1 + j else 0), h.2.2.2.2)
  | (4, r, k, _, x), h => (h.1, h.2.1, eup h.2.2.1 r k x, h.2.2.2.1, h.2.2.2.2)
  | (_, r, k, v, _), h => (h.1, h.2.1, h.2.2.1, eup h.2.2.2.1 r k v, h.2.2.2.2)
def hd : List eOp → eH
  | [] => (2, fun _ => (99, 0), fun _ _ => 0, fun _ _ => 0, fun _ _ => 0)
  | p :: t => hap p (hd t)
abbrev cI (L : List eOp) : eR := .inl (none, hd L)
section ERJ
variable {md : eM} {ρ : Type} {d pc : Nat} {ls : eL} {t : List eV} {L : List eOp} {c z : Nat} {X : Option ρ} {cv : ρ → eR} {oc maxL rt mc ms : Nat} {hs : List (Nat × Nat × Nat × Nat)} {cd : eC} {idx : Nat} {a1 a2 a3 a4 a5 a6 : Nat} {w : Nat × Nat × Nat × Nat × Nat × Nat}
theorem TI_putI {r : Nat} {x : Int32} (hel : elk cd pc = some (.putfield idx, a1, a2, 0, a4, a5, a6)) (H : ((hd L).2.1 r).1 = a1 → Snd true none d (oc, maxL, rt, mc, ms, hs, cd) X cv (pc + 3, ls, t, hd ((4, r, a2, 0, x) :: L), c, z)) : Snd true none d (oc, maxL, rt, mc, ms, hs, cd) (if ((hd L).2.1 r).1 = a1 then X else none) cv (pc, ls, .inl x :: .inr (.inr r) :: t, hd L, c, z) := by
  refine T_chk (S1 := (pc + 3, ls, t, hd ((4, r, a2, 0, x) :: L), c, z)) ?_ H
  unfold stp
  dsimp only
  rw [hel]
  rfl
theorem TI_putZ {r : Nat} {x : Int32} (hel : elk cd pc = some (.putfield idx, a1, a2, 2, a4, a5, a6)) (H : ((hd L).2.1 r).1 = a1 ∧ eB x = true → Snd true none d (oc, maxL, rt, mc, ms, hs, cd) X cv (pc + 3, ls, t, hd ((4, r, a2, 0, x) :: L), c, z)) : Snd true none d (oc, maxL, rt, mc, ms, hs, cd) (if ((hd L).2.1 r).1 = a1 ∧ eB x = true then X else none) cv (pc, ls, .inl x :: .inr (.inr r) :: t, hd L, c, z) := by
  refine T_chk (S1 := (pc + 3, ls, t, hd ((4, r, a2, 0, x) :: L), c, z)) ?_ H
  unfold stp
  dsimp only
  rw [hel]
  rfl
theorem TI_putR {r x : Nat} (hel : elk cd pc = some (.putfield idx, a1, a2, 1, a4, a5, a6)) (H : ((hd L).2.1 r).1 = a1 → Snd true none d (oc, maxL, rt, mc, ms, hs, cd) X cv (pc + 3, ls, t, hd ((5, r, a2, x, 0) :: L), c, z)) : Snd true none d (oc, maxL, rt, mc, ms, hs, cd) (if ((hd L).2.1 r).1 = a1 then X else none) cv (pc, ls, .inr (.inr x) :: .inr (.inr r) :: t, hd L, c, z) := by
  refine T_chk (S1 := (pc + 3, ls, t, hd ((5, r, a2, x, 0) :: L), c, z)) ?_ H
  unfold stp
  dsimp only
  rw [hel]
  rfl
theorem TI_getR {r : Nat} (hel : elk cd pc = some (.getfield idx, a1, a2, 1, a4, a5, a6)) (H : ((hd L).2.1 r).1 = a1 → Snd true none d (oc, maxL, rt, mc, ms, hs, cd) X cv (pc + 3, ls, .inr (.inr ((hd L).2.2.2.1 r a2)) :: t, hd L, c, z)) : Snd true none d (oc, maxL, rt, mc, ms, hs, cd) (if ((hd L).2.1 r).1 = a1 then X else none) cv (pc, ls, .inr (.inr r) :: t, hd L, c, z) := by
  refine T_chk (S1 := (pc + 3, ls, .inr (.inr ((hd L).2.2.2.1 r a2)) :: t, hd L, c, z)) ?_ H
  unfold stp
  dsimp only
  rw [hel]
  rfl
theorem TI_iast {r : Nat} {i x : Int32} (hel : elk cd pc = some (.iastore, w)) (H : ((hd L).2.1 r).1 = 11 ∧ eix i ((hd L).2.1 r).2 = true → Snd true none d (oc, maxL, rt, mc, ms, hs, cd) X cv (pc + 1, ls, t, hd ((4, r, i.toNatClampNeg, 0, x) :: L), c, z)) : Snd true none d (oc, maxL, rt, mc, ms, hs, cd) (if ((hd L).2.1 r).1 = 11 ∧ eix i ((hd L).2.1 r).2 = true then X else none) cv (pc, ls, .inl x :: .inl i :: .inr (.inr r) :: t, hd L, c, z) := by
  refine T_chk (S1 := (pc + 1, ls, t, hd ((4, r, i.toNatClampNeg, 0, x) :: L), c, z)) ?_ H
  unfold stp
  dsimp only
  rw [hel]
  rfl
theorem TI_aast {r x : Nat} {i : Int32} (hel : elk cd pc = some (.aastore, a1, a2, a3, a4, a5, a6)) (H : ((hd L).2.1 r).1 = a1 ∧ eix i ((hd L).2.1 r).2 = true ∧ ((hd L).2.1 x).1 = a2 → Snd true none d (oc, maxL, rt, mc, ms, hs, cd) X cv (pc + 1, ls, t, hd ((5, r, i.toNatClampNeg, x, 0) :: L), c, z)) : Snd true none d (oc, maxL, rt, mc, ms, hs, cd) (if ((hd L).2.1 r).1 = a1 ∧ eix i ((hd L).2.1 r).2 = true ∧ ((hd L).2.1 x).1 = a2 then X else none) cv (pc, ls, .inr (.inr x) :: .inl i :: .inr (.inr r) :: t, hd L, c, z) := by
  refine T_chk (S1 := (pc + 1, ls, t, hd ((5, r, i.toNatClampNeg, x, 0) :: L), c, z)) ?_ H
  unfold stp
  dsimp only
  rw [hel]
  rfl
theorem TI_obj {r : Nat} (hel : elk cd pc = some (.invokespecial idx, a1, 0, a3, a4, a5, a6)) (H : 2 ≤ r ∧ ecats t ≤ 8 → Snd true none d (oc, maxL, rt, mc, ms, hs, cd) X cv (pc + 3, ls, t, hd L, c, z)) : Snd true none d (oc, maxL, rt, mc, ms, hs, cd) (if 2 ≤ r ∧ ecats t ≤ 8 then X else none) cv (pc, ls, .inr (.inr r) :: t, hd L, c, z) := by
  refine T_chk (S1 := (pc + 3, ls, t, hd L, c, z)) ?_ H
  unfold stp
  dsimp only
  rw [hel]
  rfl
theorem TI_isp {b y n f g r : Nat} {st as rest : List eV} {G : Option (List eOp)} {K : List eOp → Option ρ} (hel : elk cd pc = some (.invokespecial idx, y, b + 1, n, a4, f, g)) (hr : st.drop n = .inr (.inr r) :: rest) (has : (st.take (n + 1)).reverse = as) (hc : c + f ≤ mc ∧ z + g ≤ ms ∧ ecats rest ≤ 8 ∧ n + 1 ≤ st.length) (hg : ∀ L2, G = some L2 → Ew true d y as (hd L) (cI L2)) (hk : ((hd L).2.1 r).1 = a4 → ∀ L2, Snd true none d (oc, maxL, rt, mc, ms, hs, cd) (K L2) cv (pc + 3, ls, rest, hd L2, c + f, z + g)) : Snd true none d (oc, maxL, rt, mc, ms, hs, cd) (if ((hd L).2.1 r).1 = a4 then G.bind K else none) cv (pc, ls, st, hd L, c, z) := by
  refine T_callc (as := as) (rest := rest) (c := c + f) (z := z + g) (w := 0) (vv := fun _ => none) (hh := fun L2 => hd L2) ?_ hg hk
  unfold stp
  dsimp only
  rw [hel]
  show (match st.drop n with | .inr (.inr r) :: _ => (if ((hd L).2.1 r).1 = a4 then ecall mc ms y (n + 1) f g pc ls st (hd L) c z else estk) | _ => estk) = _
  rw [hr]
  dsimp only
  unfold ecall
  have hd : st.drop (n + 1) = rest := by rw [← List.tail_drop, hr]; rfl
  rw [hd, has, if_pos hc]
end ERJ
set_option maxRecDepth 20000 in
def f_X7_init (x0 : Nat) (L : List eOp) : Option (List eOp) :=
  if 2 ≤ x0 ∧ ecats [] ≤ 8 then
  if ((hd L).2.1 x0).1 = 6 then
  eLet ((4, x0, 0, 0, (-1 : Int32)) :: L) fun L1 =>
  if ((hd L1).2.1 x0).1 = 6 then
  eLet ((4, x0, 1, 0, (0 : Int32)) :: L1) fun L2 =>
  if ((hd L2).2.1 x0).1 = 6 then
  eLet ((4, x0, 2, 0, (0 : Int32)) :: L2) fun L3 =>
  if ((hd L3).2.1 x0).1 = 6 then
  eLet ((4, x0, 3, 0, (0 : Int32)) :: L3) fun L4 =>
  if ((hd L4).2.1 x0).1 = 6 ∧ eB (0 : Int32) = true then
  eLet ((4, x0, 4, 0, (0 : Int32)) :: L4) fun L5 =>
  if ((hd L5).2.1 x0).1 = 6 then
  eLet ((4, x0, 5, 0, (0 : Int32)) :: L5) fun L6 =>
  some L6
  else none
  else none
  else none
  else none
  else none
  else none
  else none
set_option maxHeartbeats 4000000 in
set_option maxRecDepth 20000 in
theorem s_X7_init (x0 : Nat) (L : List eOp) : ∀ L2, f_X7_init x0 L = some L2 → Ew true 1 64 [.inr (.inr (x0))] (hd L) (cI L2) := by
  refine T_meth (md := m_X7_init) (d0 := 0) (cv := cI) rfl (lb rfl) (lb rfl) ?_
  unfold f_X7_init
  show Snd true none _ _ _ _ (0, [(0, .inr (.inr (x0)))], [], hd L, 0, 0)
  refine T_go (S' := (1, [(0, .inr (.inr (x0)))], [.inr (.inr (x0))], hd L, 0, 0)) 1 rfl ?_
  refine TI_obj rfl (fun _ => ?_)
  show Snd true none _ _ _ _ (4, [(0, .inr (.inr (x0)))], [], hd L, 0, 0)
  refine T_go (S' := (6, [(0, .inr (.inr (x0)))], [.inl ((-1 : Int32)), .inr (.inr (x0))], hd L, 0, 0)) 2 rfl ?_
  refine TI_putI rfl (fun _ => ?_)
  refine T_let (Sf := fun L1 => (9, [(0, .inr (.inr (x0)))], [], hd L1, 0, 0)) (fun L1 => ?_)
  refine T_go (S' := (11, [(0, .inr (.inr (x0)))], [.inl ((0 : Int32)), .inr (.inr (x0))], hd L1, 0, 0)) 2 rfl ?_
  refine TI_putI rfl (fun _ => ?_)
  refine T_let (Sf := fun L2 => (14, [(0, .inr (.inr (x0)))], [], hd L2, 0, 0)) (fun L2 => ?_)
  refine T_go (S' := (16, [(0, .inr (.inr (x0)))], [.inl ((0 : Int32)), .inr (.inr (x0))], hd L2, 0, 0)) 2 rfl ?_
  refine TI_putI rfl (fun _ => ?_)
  refine T_let (Sf := fun L3 => (19, [(0, .inr (.inr (x0)))], [], hd L3, 0, 0)) (fun L3 => ?_)
  refine T_go (S' := (21, [(0, .inr (.inr (x0)))], [.inl ((0 : Int32)), .inr (.inr (x0))], hd L3, 0, 0)) 2 rfl ?_
  refine TI_putI rfl (fun _ => ?_)
  refine T_let (Sf := fun L4 => (24, [(0, .inr (.inr (x0)))], [], hd L4, 0, 0)) (fun L4 => ?_)
  refine T_go (S' := (26, [(0, .inr (.inr (x0)))], [.inl ((0 : Int32)), .inr (.inr (x0))], hd L4, 0, 0)) 2 rfl ?_
  refine TI_putZ rfl (fun _ => ?_)
  refine T_let (Sf := fun L5 => (29, [(0, .inr (.inr (x0)))], [], hd L5, 0, 0)) (fun L5 => ?_)
  refine T_go (S' := (31, [(0, .inr (.inr (x0)))], [.inl ((0 : Int32)), .inr (.inr (x0))], hd L5, 0, 0)) 2 rfl ?_
  refine TI_putI rfl (fun _ => ?_)
  refine T_let (Sf := fun L6 => (34, [(0, .inr (.inr (x0)))], [], hd L6, 0, 0)) (fun L6 => ?_)
  exact T_ret rfl
set_option maxRecDepth 20000 in
def f_X10_init (x0 : Nat) (L : List eOp) : Option (List eOp) :=
  if 2 ≤ x0 ∧ ecats [] ≤ 8 then
  if ((hd L).2.1 x0).1 = 8 ∧ eB (0 : Int32) = true then
  eLet ((4, x0, 0, 0, (0 : Int32)) :: L) fun L1 =>
  if ((hd L1).2.1 x0).1 = 8 ∧ eB (0 : Int32) = true then
  eLet ((4, x0, 1, 0, (0 : Int32)) :: L1) fun L2 =>
  if ((hd L2).2.1 x0).1 = 8 then
  eLet ((4, x0, 2, 0, (0 : Int32)) :: L2) fun L3 =>
  if ((hd L3).2.1 x0).1 = 8 then
  eLet ((4, x0, 3, 0, (0 : Int32)) :: L3) fun L4 =>
  if ((hd L4).2.1 x0).1 = 8 then
  eLet ((4, x0, 4, 0, (0 : Int32)) :: L4) fun L5 =>
  eLet ((1, 13, 16, 0, 0) :: L5) fun L7 =>
  eLet ((hd L5).1) fun r6 =>
  if ((hd L7).2.1 x0).1 = 8 then
  eLet ((5, x0, 5, r6, 0) :: L7) fun L8 =>
  eLet ((1, 11, 16, 0, 0) :: L8) fun L10 =>
  eLet ((hd L8).1) fun r9 =>
  if ((hd L10).2.1 x0).1 = 8 then
  eLet ((5, x0, 6, r9, 0) :: L10) fun L11 =>
  some L11
  else none
  else none
  else none
  else none
  else none
  else none
  else none
  else none
set_option maxHeartbeats 4000000 in
set_option maxRecDepth 20000 in
theorem s_X10_init (x0 : Nat) (L : List eOp) : ∀ L2, f_X10_init x0 L = some L2 → Ew true 1 88 [.inr (.inr (x0))] (hd L) (cI L2) := by
  refine T_meth (md := m_X10_init) (d0 := 0) (cv := cI) rfl (lb rfl) (lb rfl) ?_
  unfold f_X10_init
  show Snd true none _ _ _ _ (0, [(0, .inr (.inr (x0)))], [], hd L, 0, 0)
  refine T_go (S' := (1, [(0, .inr (.inr (x0)))], [.inr (.inr (x0))], hd L, 0, 0)) 1 rfl ?_
  refine TI_obj rfl (fun _ => ?_)
  show Snd true none _ _ _ _ (4, [(0, .inr (.inr (x0)))], [], hd L, 0, 0)
  refine T_go (S' := (6, [(0, .inr (.inr (x0)))], [.inl ((0 : Int32)), .inr (.inr (x0))], hd L, 0, 0)) 2 rfl ?_
  refine TI_putZ rfl (fun _ => ?_)
  refine T_let (Sf := fun L1 => (9, [(0, .inr (.inr (x0)))], [], hd L1, 0, 0)) (fun L1 => ?_)
  refine T_go (S' := (11, [(0, .inr (.inr (x0)))], [.inl ((0 : Int32)), .inr (.inr (x0))], hd L1, 0, 0)) 2 rfl ?_
  refine TI_putZ rfl (fun _ => ?_)
  refine T_let (Sf := fun L2 => (14, [(0, .inr (.inr (x0)))], [], hd L2, 0, 0)) (fun L2 => ?_)
  refine T_go (S' := (16, [(0, .inr (.inr (x0)))], [.inl ((0 : Int32)), .inr (.inr (x0))], hd L2, 0, 0)) 2 rfl ?_
  refine TI_putI rfl (fun _ => ?_)
  refine T_let (Sf := fun L3 => (19, [(0, .inr (.inr (x0)))], [], hd L3, 0, 0)) (fun L3 => ?_)
  refine T_go (S' := (21, [(0, .inr (.inr (x0)))], [.inl ((0 : Int32)), .inr (.inr (x0))], hd L3, 0, 0)) 2 rfl ?_
  refine TI_putI rfl (fun _ => ?_)
  refine T_let (Sf := fun L4 => (24, [(0, .inr (.inr (x0)))], [], hd L4, 0, 0)) (fun L4 => ?_)
  refine T_go (S' := (26, [(0, .inr (.inr (x0)))], [.inl ((0 : Int32)), .inr (.inr (x0))], hd L4, 0, 0)) 2 rfl ?_
  refine TI_putI rfl (fun _ => ?_)
  refine T_let (Sf := fun L5 => (29, [(0, .inr (.inr (x0)))], [], hd L5, 0, 0)) (fun L5 => ?_)
  refine T_go (S' := (32, [(0, .inr (.inr (x0)))], [.inl ((16 : Int32)), .inr (.inr (x0))], hd L5, 0, 0)) 2 rfl ?_
  refine T_go (S' := (34, [(0, .inr (.inr (x0)))], [.inr (.inr (((hd L5).1))), .inr (.inr (x0))], hd ((1, 13, 16, 0, 0) :: L5), 1, 16)) 1 rfl ?_
  refine T_let (Sf := fun L7 => (34, [(0, .inr (.inr (x0)))], [.inr (.inr (((hd L5).1))), .inr (.inr (x0))], hd L7, 1, 16)) (fun L7 => ?_)
  refine T_let (Sf := fun r6 => (34, [(0, .inr (.inr (x0)))], [.inr (.inr (r6)), .inr (.inr (x0))], hd L7, 1, 16)) (fun r6 => ?_)
  refine TI_putR rfl (fun _ => ?_)
  refine T_let (Sf := fun L8 => (37, [(0, .inr (.inr (x0)))], [], hd L8, 1, 16)) (fun L8 => ?_)
  refine T_go (S' := (40, [(0, .inr (.inr (x0)))], [.inl ((16 : Int32)), .inr (.inr (x0))], hd L8, 1, 16)) 2 rfl ?_
  refine T_go (S' := (42, [(0, .inr (.inr (x0)))], [.inr (.inr (((hd L8).1))), .inr (.inr (x0))], hd ((1, 11, 16, 0, 0) :: L8), 2, 32)) 1 rfl ?_
  refine T_let (Sf := fun L10 => (42, [(0, .inr (.inr (x0)))], [.inr (.inr (((hd L8).1))), .inr (.inr (x0))], hd L10, 2, 32)) (fun L10 => ?_)
  refine T_let (Sf := fun r9 => (42, [(0, .inr (.inr (x0)))], [.inr (.inr (r9)), .inr (.inr (x0))], hd L10, 2, 32)) (fun r9 => ?_)
  refine TI_putR rfl (fun _ => ?_)
  refine T_let (Sf := fun L11 => (45, [(0, .inr (.inr (x0)))], [], hd L11, 2, 32)) (fun L11 => ?_)
  exact T_ret rfl
set_option maxRecDepth 20000 in
def f_X0_init_c2 (x0 : Nat) (x1 : Int32) (x2 : Nat) (x3 : Nat) (L : List eOp) : Option (List eOp) :=
  if ((hd L).2.1 x0).1 = 0 then
  eLet ((hd L).2.2.2.1 x0 4) fun r72 =>
  if ((hd L).2.1 r72).1 = 11 ∧ eix (14 : Int32) ((hd L).2.1 r72).2 = true then
  eLet ((4, r72, 14, 0, (-1 : Int32)) :: L) fun L73 =>
  if ((hd L73).2.1 x0).1 = 0 then
  eLet ((hd L73).2.2.2.1 x0 4) fun r74 =>
  if ((hd L73).2.1 r74).1 = 11 ∧ eix (15 : Int32) ((hd L73).2.1 r74).2 = true then
  eLet ((4, r74, 15, 0, (-1 : Int32)) :: L73) fun L75 =>
  some L75
  else none
  else none
  else none
  else none
set_option maxHeartbeats 4000000 in
set_option maxRecDepth 20000 in
theorem s_X0_init_c2 (x0 : Nat) (x1 : Int32) (x2 : Nat) (x3 : Nat) (L : List eOp) : Snd true none 1 m_X0_init (f_X0_init_c2 x0 x1 x2 x3 L) cI (127, [(4, .inl ((13 : Int32))), (0, .inr (.inr (x0))), (1, .inl (x1)), (2, .inr (.inr (x2))), (3, .inr (.inr (x3)))], [], hd L, 11, 91) := by
  unfold f_X0_init_c2
  refine T_go (S' := (120, [(4, .inl ((14 : Int32))), (0, .inr (.inr (x0))), (1, .inl (x1)), (2, .inr (.inr (x2))), (3, .inr (.inr (x3)))], [.inr (.inr (x0))], hd L, 11, 91)) 6 rfl ?_
  refine TI_getR rfl (fun _ => ?_)
  refine T_let (Sf := fun r72 => (123, [(4, .inl ((14 : Int32))), (0, .inr (.inr (x0))), (1, .inl (x1)), (2, .inr (.inr (x2))), (3, .inr (.inr (x3)))], [.inr (.inr (r72))], hd L, 11, 91)) (fun r72 => ?_)
  refine T_go (S' := (126, [(4, .inl ((14 : Int32))), (0, .inr (.inr (x0))), (1, .inl (x1)), (2, .inr (.inr (x2))), (3, .inr (.inr (x3)))], [.inl ((-1 : Int32)), .inl ((14 : Int32)), .inr (.inr (r72))], hd L, 11, 91)) 2 rfl ?_
  refine TI_iast rfl (fun _ => ?_)
  refine T_let (Sf := fun L73 => (127, [(4, .inl ((14 : Int32))), (0, .inr (.inr (x0))), (1, .inl (x1)), (2, .inr (.inr (x2))), (3, .inr (.inr (x3)))], [], hd L73, 11, 91)) (fun L73 => ?_)
  refine T_go (S' := (120, [(4, .inl ((15 : Int32))), (0, .inr (.inr (x0))), (1, .inl (x1)), (2, .inr (.inr (x2))), (3, .inr (.inr (x3)))], [.inr (.inr (x0))], hd L73, 11, 91)) 6 rfl ?_
  refine TI_getR rfl (fun _ => ?_)
  refine T_let (Sf := fun r74 => (123, [(4, .inl ((15 : Int32))), (0, .inr (.inr (x0))), (1, .inl (x1)), (2, .inr (.inr (x2))), (3, .inr (.inr (x3)))], [.inr (.inr (r74))], hd L73, 11, 91)) (fun r74 => ?_)
  refine T_go (S' := (126, [(4, .inl ((15 : Int32))), (0, .inr (.inr (x0))), (1, .inl (x1)), (2, .inr (.inr (x2))), (3, .inr (.inr (x3)))], [.inl ((-1 : Int32)), .inl ((15 : Int32)), .inr (.inr (r74))], hd L73, 11, 91)) 2 rfl ?_
  refine TI_iast rfl (fun _ => ?_)
  refine T_let (Sf := fun L75 => (127, [(4, .inl ((15 : Int32))), (0, .inr (.inr (x0))), (1, .inl (x1)), (2, .inr (.inr (x2))), (3, .inr (.inr (x3)))], [], hd L75, 11, 91)) (fun L75 => ?_)
  refine T_go (S' := (133, [(4, .inl ((16 : Int32))), (0, .inr (.inr (x0))), (1, .inl (x1)), (2, .inr (.inr (x2))), (3, .inr (.inr (x3)))], [], hd L75, 11, 91)) 5 rfl ?_
  exact T_ret rfl
set_option maxRecDepth 20000 in
def f_X0_init_c1 (x0 : Nat) (x1 : Int32) (x2 : Nat) (x3 : Nat) (L : List eOp) : Option (List eOp) :=
  if ((hd L).2.1 x0).1 = 0 then
  eLet ((hd L).2.2.2.1 x0 3) fun r39 =>
  eLet ((0, 6, 0, 0, 0) :: L) fun L41 =>
  eLet ((hd L).1) fun r40 =>
  if ((hd L41).2.1 r40).1 = 6 then
  Option.bind (f_X7_init r40 L41) fun L42 =>
  if ((hd L42).2.1 r39).1 = 16 ∧ eix (3 : Int32) ((hd L42).2.1 r39).2 = true ∧ ((hd L42).2.1 r40).1 = 6 then
  eLet ((5, r39, 3, r40, 0) :: L42) fun L43 =>
  if ((hd L43).2.1 x0).1 = 0 then
  eLet ((hd L43).2.2.2.1 x0 4) fun r44 =>
  if ((hd L43).2.1 r44).1 = 11 ∧ eix (0 : Int32) ((hd L43).2.1 r44).2 = true then
  eLet ((4, r44, 0, 0, (-1 : Int32)) :: L43) fun L45 =>
  if ((hd L45).2.1 x0).1 = 0 then
  eLet ((hd L45).2.2.2.1 x0 4) fun r46 =>
  if ((hd L45).2.1 r46).1 = 11 ∧ eix (1 : Int32) ((hd L45).2.1 r46).2 = true then
  eLet ((4, r46, 1, 0, (-1 : Int32)) :: L45) fun L47 =>
  if ((hd L47).2.1 x0).1 = 0 then
  eLet ((hd L47).2.2.2.1 x0 4) fun r48 =>
  if ((hd L47).2.1 r48).1 = 11 ∧ eix (2 : Int32) ((hd L47).2.1 r48).2 = true then
  eLet ((4, r48, 2, 0, (-1 : Int32)) :: L47) fun L49 =>
  if ((hd L49).2.1 x0).1 = 0 then
  eLet ((hd L49).2.2.2.1 x0 4) fun r50 =>
  if ((hd L49).2.1 r50).1 = 11 ∧ eix (3 : Int32) ((hd L49).2.1 r50).2 = true then
  eLet ((4, r50, 3, 0, (-1 : Int32)) :: L49) fun L51 =>
  if ((hd L51).2.1 x0).1 = 0 then
  eLet ((hd L51).2.2.2.1 x0 4) fun r52 =>
  if ((hd L51).2.1 r52).1 = 11 ∧ eix (4 : Int32) ((hd L51).2.1 r52).2 = true then
  eLet ((4, r52, 4, 0, (-1 : Int32)) :: L51) fun L53 =>
  if ((hd L53).2.1 x0).1 = 0 then
  eLet ((hd L53).2.2.2.1 x0 4) fun r54 =>
  if ((hd L53).2.1 r54).1 = 11 ∧ eix (5 : Int32) ((hd L53).2.1 r54).2 = true then
  eLet ((4, r54, 5, 0, (-1 : Int32)) :: L53) fun L55 =>
  if ((hd L55).2.1 x0).1 = 0 then
  eLet ((hd L55).2.2.2.1 x0 4) fun r56 =>
  if ((hd L55).2.1 r56).1 = 11 ∧ eix (6 : Int32) ((hd L55).2.1 r56).2 = true then
  eLet ((4, r56, 6, 0, (-1 : Int32)) :: L55) fun L57 =>
  if ((hd L57).2.1 x0).1 = 0 then
  eLet ((hd L57).2.2.2.1 x0 4) fun r58 =>
  if ((hd L57).2.1 r58).1 = 11 ∧ eix (7 : Int32) ((hd L57).2.1 r58).2 = true then
  eLet ((4, r58, 7, 0, (-1 : Int32)) :: L57) fun L59 =>
  if ((hd L59).2.1 x0).1 = 0 then
  eLet ((hd L59).2.2.2.1 x0 4) fun r60 =>
  if ((hd L59).2.1 r60).1 = 11 ∧ eix (8 : Int32) ((hd L59).2.1 r60).2 = true then
  eLet ((4, r60, 8, 0, (-1 : Int32)) :: L59) fun L61 =>
  if ((hd L61).2.1 x0).1 = 0 then
  eLet ((hd L61).2.2.2.1 x0 4) fun r62 =>
  if ((hd L61).2.1 r62).1 = 11 ∧ eix (9 : Int32) ((hd L61).2.1 r62).2 = true then
  eLet ((4, r62, 9, 0, (-1 : Int32)) :: L61) fun L63 =>
  if ((hd L63).2.1 x0).1 = 0 then
  eLet ((hd L63).2.2.2.1 x0 4) fun r64 =>
  if ((hd L63).2.1 r64).1 = 11 ∧ eix (10 : Int32) ((hd L63).2.1 r64).2 = true then
  eLet ((4, r64, 10, 0, (-1 : Int32)) :: L63) fun L65 =>
  if ((hd L65).2.1 x0).1 = 0 then
  eLet ((hd L65).2.2.2.1 x0 4) fun r66 =>
  if ((hd L65).2.1 r66).1 = 11 ∧ eix (11 : Int32) ((hd L65).2.1 r66).2 = true then
  eLet ((4, r66, 11, 0, (-1 : Int32)) :: L65) fun L67 =>
  if ((hd L67).2.1 x0).1 = 0 then
  eLet ((hd L67).2.2.2.1 x0 4) fun r68 =>
  if ((hd L67).2.1 r68).1 = 11 ∧ eix (12 : Int32) ((hd L67).2.1 r68).2 = true then
  eLet ((4, r68, 12, 0, (-1 : Int32)) :: L67) fun L69 =>
  if ((hd L69).2.1 x0).1 = 0 then
  eLet ((hd L69).2.2.2.1 x0 4) fun r70 =>
  if ((hd L69).2.1 r70).1 = 11 ∧ eix (13 : Int32) ((hd L69).2.1 r70).2 = true then
  eLet ((4, r70, 13, 0, (-1 : Int32)) :: L69) fun L71 =>
  f_X0_init_c2 x0 x1 x2 x3 L71
  else none
  else none
  else none
  else none
  else none
  else none
  else none
  else none
  else none
  else none
  else none
  else none
  else none
  else none
  else none
  else none
  else none
  else none
  else none
  else none
  else none
  else none
  else none
  else none
  else none
  else none
  else none
  else none
  else none
  else none
  else none
set_option maxHeartbeats 4000000 in
set_option maxRecDepth 20000 in
theorem s_X0_init_c1 (x0 : Nat) (x1 : Int32) (x2 : Nat) (x3 : Nat) (L : List eOp) : Snd true none 1 m_X0_init (f_X0_init_c1 x0 x1 x2 x3 L) cI (103, [(4, .inl ((2 : Int32))), (0, .inr (.inr (x0))), (1, .inl (x1)), (2, .inr (.inr (x2))), (3, .inr (.inr (x3)))], [], hd L, 10, 85) := by
  unfold f_X0_init_c1
  refine T_go (S' := (90, [(4, .inl ((3 : Int32))), (0, .inr (.inr (x0))), (1, .inl (x1)), (2, .inr (.inr (x2))), (3, .inr (.inr (x3)))], [.inr (.inr (x0))], hd L, 10, 85)) 6 rfl ?_
  refine TI_getR rfl (fun _ => ?_)
  refine T_let (Sf := fun r39 => (93, [(4, .inl ((3 : Int32))), (0, .inr (.inr (x0))), (1, .inl (x1)), (2, .inr (.inr (x2))), (3, .inr (.inr (x3)))], [.inr (.inr (r39))], hd L, 10, 85)) (fun r39 => ?_)
  refine T_go (S' := (95, [(4, .inl ((3 : Int32))), (0, .inr (.inr (x0))), (1, .inl (x1)), (2, .inr (.inr (x2))), (3, .inr (.inr (x3)))], [.inl ((3 : Int32)), .inr (.inr (r39))], hd L, 10, 85)) 1 rfl ?_
  refine T_go (S' := (98, [(4, .inl ((3 : Int32))), (0, .inr (.inr (x0))), (1, .inl (x1)), (2, .inr (.inr (x2))), (3, .inr (.inr (x3)))], [.inr (.inr (((hd L).1))), .inl ((3 : Int32)), .inr (.inr (r39))], hd ((0, 6, 0, 0, 0) :: L), 11, 91)) 1 rfl ?_
  refine T_let (Sf := fun L41 => (98, [(4, .inl ((3 : Int32))), (0, .inr (.inr (x0))), (1, .inl (x1)), (2, .inr (.inr (x2))), (3, .inr (.inr (x3)))], [.inr (.inr (((hd L).1))), .inl ((3 : Int32)), .inr (.inr (r39))], hd L41, 11, 91)) (fun L41 => ?_)
  refine T_let (Sf := fun r40 => (98, [(4, .inl ((3 : Int32))), (0, .inr (.inr (x0))), (1, .inl (x1)), (2, .inr (.inr (x2))), (3, .inr (.inr (x3)))], [.inr (.inr (r40)), .inl ((3 : Int32)), .inr (.inr (r39))], hd L41, 11, 91)) (fun r40 => ?_)
  refine T_go (S' := (99, [(4, .inl ((3 : Int32))), (0, .inr (.inr (x0))), (1, .inl (x1)), (2, .inr (.inr (x2))), (3, .inr (.inr (x3)))], [.inr (.inr (r40)), .inr (.inr (r40)), .inl ((3 : Int32)), .inr (.inr (r39))], hd L41, 11, 91)) 1 rfl ?_
  refine TI_isp (as := [.inr (.inr (r40))]) (rest := [.inr (.inr (r40)), .inl ((3 : Int32)), .inr (.inr (r39))]) (st := [.inr (.inr (r40)), .inr (.inr (r40)), .inl ((3 : Int32)), .inr (.inr (r39))]) rfl rfl rfl ⟨lb rfl, lb rfl, lb rfl, lb rfl⟩ (fun _ h => Ew_le (lb rfl) (s_X7_init r40 L41 _ h)) (fun _ L42 => ?_)
  show Snd true none _ _ _ _ (102, [(4, .inl ((3 : Int32))), (0, .inr (.inr (x0))), (1, .inl (x1)), (2, .inr (.inr (x2))), (3, .inr (.inr (x3)))], [.inr (.inr (r40)), .inl ((3 : Int32)), .inr (.inr (r39))], hd L42, 11, 91)
  refine TI_aast rfl (fun _ => ?_)
  refine T_let (Sf := fun L43 => (103, [(4, .inl ((3 : Int32))), (0, .inr (.inr (x0))), (1, .inl (x1)), (2, .inr (.inr (x2))), (3, .inr (.inr (x3)))], [], hd L43, 11, 91)) (fun L43 => ?_)
  refine T_go (S' := (120, [(4, .inl ((0 : Int32))), (0, .inr (.inr (x0))), (1, .inl (x1)), (2, .inr (.inr (x2))), (3, .inr (.inr (x3)))], [.inr (.inr (x0))], hd L43, 11, 91)) 11 rfl ?_
  refine TI_getR rfl (fun _ => ?_)
  refine T_let (Sf := fun r44 => (123, [(4, .inl ((0 : Int32))), (0, .inr (.inr (x0))), (1, .inl (x1)), (2, .inr (.inr (x2))), (3, .inr (.inr (x3)))], [.inr (.inr (r44))], hd L43, 11, 91)) (fun r44 => ?_)
  refine T_go (S' := (126, [(4, .inl ((0 : Int32))), (0, .inr (.inr (x0))), (1, .inl (x1)), (2, .inr (.inr (x2))), (3, .inr (.inr (x3)))], [.inl ((-1 : Int32)), .inl ((0 : Int32)), .inr (.inr (r44))], hd L43, 11, 91)) 2 rfl ?_
  refine TI_iast rfl (fun _ => ?_)
  refine T_let (Sf := fun L45 => (127, [(4, .inl ((0 : Int32))), (0, .inr (.inr (x0))), (1, .inl (x1)), (2, .inr (.inr (x2))), (3, .inr (.inr (x3)))], [], hd L45, 11, 91)) (fun L45 => ?_)
  refine T_go (S' := (120, [(4, .inl ((1 : Int32))), (0, .inr (.inr (x0))), (1, .inl (x1)), (2, .inr (.inr (x2))), (3, .inr (.inr (x3)))], [.inr (.inr (x0))], hd L45, 11, 91)) 6 rfl ?_
  refine TI_getR rfl (fun _ => ?_)
  refine T_let (Sf := fun r46 => (123, [(4, .inl ((1 : Int32))), (0, .inr (.inr (x0))), (1, .inl (x1)), (2, .inr (.inr (x2))), (3, .inr (.inr (x3)))], [.inr (.inr (r46))], hd L45, 11, 91)) (fun r46 => ?_)
  refine T_go (S' := (126, [(4, .inl ((1 : Int32))), (0, .inr (.inr (x0))), (1, .inl (x1)), (2, .inr (.inr (x2))), (3, .inr (.inr (x3)))], [.inl ((-1 : Int32)), .inl ((1 : Int32)), .inr (.inr (r46))], hd L45, 11, 91)) 2 rfl ?_
  refine TI_iast rfl (fun _ => ?_)
  refine T_let (Sf := fun L47 => (127, [(4, .inl ((1 : Int32))), (0, .inr (.inr (x0))), (1, .inl (x1)), (2, .inr (.inr (x2))), (3, .inr (.inr (x3)))], [], hd L47, 11, 91)) (fun L47 => ?_)
  refine T_go (S' := (120, [(4, .inl ((2 : Int32))), (0, .inr (.inr (x0))), (1, .inl (x1)), (2, .inr (.inr (x2))), (3, .inr (.inr (x3)))], [.inr (.inr (x0))], hd L47, 11, 91)) 6 rfl ?_
  refine TI_getR rfl (fun _ => ?_)
  refine T_let (Sf := fun r48 => (123, [(4, .inl ((2 : Int32))), (0, .inr (.inr (x0))), (1, .inl (x1)), (2, .inr (.inr (x2))), (3, .inr (.inr (x3)))], [.inr (.inr (r48))], hd L47, 11, 91)) (fun r48 => ?_)
  refine T_go (S' := (126, [(4, .inl ((2 : Int32))), (0, .inr (.inr (x0))), (1, .inl (x1)), (2, .inr (.inr (x2))), (3, .inr (.inr (x3)))], [.inl ((-1 : Int32)), .inl ((2 : Int32)), .inr (.inr (r48))], hd L47, 11, 91)) 2 rfl ?_
  refine TI_iast rfl (fun _ => ?_)
  refine T_let (Sf := fun L49 => (127, [(4, .inl ((2 : Int32))), (0, .inr (.inr (x0))), (1, .inl (x1)), (2, .inr (.inr (x2))), (3, .inr (.inr (x3)))], [], hd L49, 11, 91)) (fun L49 => ?_)
  refine T_go (S' := (120, [(4, .inl ((3 : Int32))), (0, .inr (.inr (x0))), (1, .inl (x1)), (2, .inr (.inr (x2))), (3, .inr (.inr (x3)))], [.inr (.inr (x0))], hd L49, 11, 91)) 6 rfl ?_
  refine TI_getR rfl (fun _ => ?_)
  refine T_let (Sf := fun r50 => (123, [(4, .inl ((3 : Int32))), (0, .inr (.inr (x0))), (1, .inl (x1)), (2, .inr (.inr (x2))), (3, .inr (.inr (x3)))], [.inr (.inr (r50))], hd L49, 11, 91)) (fun r50 => ?_)
  refine T_go (S' := (126, [(4, .inl ((3 : Int32))), (0, .inr (.inr (x0))), (1, .inl (x1)), (2, .inr (.inr (x2))), (3, .inr (.inr (x3)))], [.inl ((-1 : Int32)), .inl ((3 : Int32)), .inr (.inr (r50))], hd L49, 11, 91)) 2 rfl ?_
  refine TI_iast rfl (fun _ => ?_)
  refine T_let (Sf := fun L51 => (127, [(4, .inl ((3 : Int32))), (0, .inr (.inr (x0))), (1, .inl (x1)), (2, .inr (.inr (x2))), (3, .inr (.inr (x3)))], [], hd L51, 11, 91)) (fun L51 => ?_)
  refine T_go (S' := (120, [(4, .inl ((4 : Int32))), (0, .inr (.inr (x0))), (1, .inl (x1)), (2, .inr (.inr (x2))), (3, .inr (.inr (x3)))], [.inr (.inr (x0))], hd L51, 11, 91)) 6 rfl ?_
  refine TI_getR rfl (fun _ => ?_)
  refine T_let (Sf := fun r52 => (123, [(4, .inl ((4 : Int32))), (0, .inr (.inr (x0))), (1, .inl (x1)), (2, .inr (.inr (x2))), (3, .inr (.inr (x3)))], [.inr (.inr (r52))], hd L51, 11, 91)) (fun r52 => ?_)
  refine T_go (S' := (126, [(4, .inl ((4 : Int32))), (0, .inr (.inr (x0))), (1, .inl (x1)), (2, .inr (.inr (x2))), (3, .inr (.inr (x3)))], [.inl ((-1 : Int32)), .inl ((4 : Int32)), .inr (.inr (r52))], hd L51, 11, 91)) 2 rfl ?_
  refine TI_iast rfl (fun _ => ?_)
  refine T_let (Sf := fun L53 => (127, [(4, .inl ((4 : Int32))), (0, .inr (.inr (x0))), (1, .inl (x1)), (2, .inr (.inr (x2))), (3, .inr (.inr (x3)))], [], hd L53, 11, 91)) (fun L53 => ?_)
  refine T_go (S' := (120, [(4, .inl ((5 : Int32))), (0, .inr (.inr (x0))), (1, .inl (x1)), (2, .inr (.inr (x2))), (3, .inr (.inr (x3)))], [.inr (.inr (x0))], hd L53, 11, 91)) 6 rfl ?_
  refine TI_getR rfl (fun _ => ?_)
  refine T_let (Sf := fun r54 => (123, [(4, .inl ((5 : Int32))), (0, .inr (.inr (x0))), (1, .inl (x1)), (2, .inr (.inr (x2))), (3, .inr (.inr (x3)))], [.inr (.inr (r54))], hd L53, 11, 91)) (fun r54 => ?_)
  refine T_go (S' := (126, [(4, .inl ((5 : Int32))), (0, .inr (.inr (x0))), (1, .inl (x1)), (2, .inr (.inr (x2))), (3, .inr (.inr (x3)))], [.inl ((-1 : Int32)), .inl ((5 : Int32)), .inr (.inr (r54))], hd L53, 11, 91)) 2 rfl ?_
  refine TI_iast rfl (fun _ => ?_)
  refine T_let (Sf := fun L55 => (127, [(4, .inl ((5 : Int32))), (0, .inr (.inr (x0))), (1, .inl (x1)), (2, .inr (.inr (x2))), (3, .inr (.inr (x3)))], [], hd L55, 11, 91)) (fun L55 => ?_)
  refine T_go (S' := (120, [(4, .inl ((6 : Int32))), (0, .inr (.inr (x0))), (1, .inl (x1)), (2, .inr (.inr (x2))), (3, .inr (.inr (x3)))], [.inr (.inr (x0))], hd L55, 11, 91)) 6 rfl ?_
  refine TI_getR rfl (fun _ => ?_)
  refine T_let (Sf := fun r56 => (123, [(4, .inl ((6 : Int32))), (0, .inr (.inr (x0))), (1, .inl (x1)), (2, .inr (.inr (x2))), (3, .inr (.inr (x3)))], [.inr (.inr (r56))], hd L55, 11, 91)) (fun r56 => ?_)
  refine T_go (S' := (126, [(4, .inl ((6 : Int32))), (0, .inr (.inr (x0))), (1, .inl (x1)), (2, .inr (.inr (x2))), (3, .inr (.inr (x3)))], [.inl ((-1 : Int32)), .inl ((6 : Int32)), .inr (.inr (r56))], hd L55, 11, 91)) 2 rfl ?_
  refine TI_iast rfl (fun _ => ?_)
  refine T_let (Sf := fun L57 => (127, [(4, .inl ((6 : Int32))), (0, .inr (.inr (x0))), (1, .inl (x1)), (2, .inr (.inr (x2))), (3, .inr (.inr (x3)))], [], hd L57, 11, 91)) (fun L57 => ?_)
  refine T_go (S' := (120, [(4, .inl ((7 : Int32))), (0, .inr (.inr (x0))), (1, .inl (x1)), (2, .inr (.inr (x2))), (3, .inr (.inr (x3)))], [.inr (.inr (x0))], hd L57, 11, 91)) 6 rfl ?_
  refine TI_getR rfl (fun _ => ?_)
  refine T_let (Sf := fun r58 => (123, [(4, .inl ((7 : Int32))), (0, .inr (.inr (x0))), (1, .inl (x1)), (2, .inr (.inr (x2))), (3, .inr (.inr (x3)))], [.inr (.inr (r58))], hd L57, 11, 91)) (fun r58 => ?_)
  refine T_go (S' := (126, [(4, .inl ((7 : Int32))), (0, .inr (.inr (x0))), (1, .inl (x1)), (2, .inr (.inr (x2))), (3, .inr (.inr (x3)))], [.inl ((-1 : Int32)), .inl ((7 : Int32)), .inr (.inr (r58))], hd L57, 11, 91)) 2 rfl ?_
  refine TI_iast rfl (fun _ => ?_)
  refine T_let (Sf := fun L59 => (127, [(4, .inl ((7 : Int32))), (0, .inr (.inr (x0))), (1, .inl (x1)), (2, .inr (.inr (x2))), (3, .inr (.inr (x3)))], [], hd L59, 11, 91)) (fun L59 => ?_)
  refine T_go (S' := (120, [(4, .inl ((8 : Int32))), (0, .inr (.inr (x0))), (1, .inl (x1)), (2, .inr (.inr (x2))), (3, .inr (.inr (x3)))], [.inr (.inr (x0))], hd L59, 11, 91)) 6 rfl ?_
  refine TI_getR rfl (fun _ => ?_)
  refine T_let (Sf := fun r60 => (123, [(4, .inl ((8 : Int32))), (0, .inr (.inr (x0))), (1, .inl (x1)), (2, .inr (.inr (x2))), (3, .inr (.inr (x3)))], [.inr (.inr (r60))], hd L59, 11, 91)) (fun r60 => ?_)
  refine T_go (S' := (126, [(4, .inl ((8 : Int32))), (0, .inr (.inr (x0))), (1, .inl (x1)), (2, .inr (.inr (x2))), (3, .inr (.inr (x3)))], [.inl ((-1 : Int32)), .inl ((8 : Int32)), .inr (.inr (r60))], hd L59, 11, 91)) 2 rfl ?_
  refine TI_iast rfl (fun _ => ?_)
  refine T_let (Sf := fun L61 => (127, [(4, .inl ((8 : Int32))), (0, .inr (.inr (x0))), (1, .inl (x1)), (2, .inr (.inr (x2))), (3, .inr (.inr (x3)))], [], hd L61, 11, 91)) (fun L61 => ?_)
  refine T_go (S' := (120, [(4, .inl ((9 : Int32))), (0, .inr (.inr (x0))), (1, .inl (x1)), (2, .inr (.inr (x2))), (3, .inr (.inr (x3)))], [.inr (.inr (x0))], hd L61, 11, 91)) 6 rfl ?_
  refine TI_getR rfl (fun _ => ?_)
  refine T_let (Sf := fun r62 => (123, [(4, .inl ((9 : Int32))), (0, .inr (.inr (x0))), (1, .inl (x1)), (2, .inr (.inr (x2))), (3, .inr (.inr (x3)))], [.inr (.inr (r62))], hd L61, 11, 91)) (fun r62 => ?_)
  refine T_go (S' := (126, [(4, .inl ((9 : Int32))), (0, .inr (.inr (x0))), (1, .inl (x1)), (2, .inr (.inr (x2))), (3, .inr (.inr (x3)))], [.inl ((-1 : Int32)), .inl ((9 : Int32)), .inr (.inr (r62))], hd L61, 11, 91)) 2 rfl ?_
  refine TI_iast rfl (fun _ => ?_)
  refine T_let (Sf := fun L63 => (127, [(4, .inl ((9 : Int32))), (0, .inr (.inr (x0))), (1, .inl (x1)), (2, .inr (.inr (x2))), (3, .inr (.inr (x3)))], [], hd L63, 11, 91)) (fun L63 => ?_)
  refine T_go (S' := (120, [(4, .inl ((10 : Int32))), (0, .inr (.inr (x0))), (1, .inl (x1)), (2, .inr (.inr (x2))), (3, .inr (.inr (x3)))], [.inr (.inr (x0))], hd L63, 11, 91)) 6 rfl ?_
  refine TI_getR rfl (fun _ => ?_)
  refine T_let (Sf := fun r64 => (123, [(4, .inl ((10 : Int32))), (0, .inr (.inr (x0))), (1, .inl (x1)), (2, .inr (.inr (x2))), (3, .inr (.inr (x3)))], [.inr (.inr (r64))], hd L63, 11, 91)) (fun r64 => ?_)
  refine T_go (S' := (126, [(4, .inl ((10 : Int32))), (0, .inr (.inr (x0))), (1, .inl (x1)), (2, .inr (.inr (x2))), (3, .inr (.inr (x3)))], [.inl ((-1 : Int32)), .inl ((10 : Int32)), .inr (.inr (r64))], hd L63, 11, 91)) 2 rfl ?_
  refine TI_iast rfl (fun _ => ?_)
  refine T_let (Sf := fun L65 => (127, [(4, .inl ((10 : Int32))), (0, .inr (.inr (x0))), (1, .inl (x1)), (2, .inr (.inr (x2))), (3, .inr (.inr (x3)))], [], hd L65, 11, 91)) (fun L65 => ?_)
  refine T_go (S' := (120, [(4, .inl ((11 : Int32))), (0, .inr (.inr (x0))), (1, .inl (x1)), (2, .inr (.inr (x2))), (3, .inr (.inr (x3)))], [.inr (.inr (x0))], hd L65, 11, 91)) 6 rfl ?_
  refine TI_getR rfl (fun _ => ?_)
  refine T_let (Sf := fun r66 => (123, [(4, .inl ((11 : Int32))), (0, .inr (.inr (x0))), (1, .inl (x1)), (2, .inr (.inr (x2))), (3, .inr (.inr (x3)))], [.inr (.inr (r66))], hd L65, 11, 91)) (fun r66 => ?_)
  refine T_go (S' := (126, [(4, .inl ((11 : Int32))), (0, .inr (.inr (x0))), (1, .inl (x1)), (2, .inr (.inr (x2))), (3, .inr (.inr (x3)))], [.inl ((-1 : Int32)), .inl ((11 : Int32)), .inr (.inr (r66))], hd L65, 11, 91)) 2 rfl ?_
  refine TI_iast rfl (fun _ => ?_)
  refine T_let (Sf := fun L67 => (127, [(4, .inl ((11 : Int32))), (0, .inr (.inr (x0))), (1, .inl (x1)), (2, .inr (.inr (x2))), (3, .inr (.inr (x3)))], [], hd L67, 11, 91)) (fun L67 => ?_)
  refine T_go (S' := (120, [(4, .inl ((12 : Int32))), (0, .inr (.inr (x0))), (1, .inl (x1)), (2, .inr (.inr (x2))), (3, .inr (.inr (x3)))], [.inr (.inr (x0))], hd L67, 11, 91)) 6 rfl ?_
  refine TI_getR rfl (fun _ => ?_)
  refine T_let (Sf := fun r68 => (123, [(4, .inl ((12 : Int32))), (0, .inr (.inr (x0))), (1, .inl (x1)), (2, .inr (.inr (x2))), (3, .inr (.inr (x3)))], [.inr (.inr (r68))], hd L67, 11, 91)) (fun r68 => ?_)
  refine T_go (S' := (126, [(4, .inl ((12 : Int32))), (0, .inr (.inr (x0))), (1, .inl (x1)), (2, .inr (.inr (x2))), (3, .inr (.inr (x3)))], [.inl ((-1 : Int32)), .inl ((12 : Int32)), .inr (.inr (r68))], hd L67, 11, 91)) 2 rfl ?_
  refine TI_iast rfl (fun _ => ?_)
  refine T_let (Sf := fun L69 => (127, [(4, .inl ((12 : Int32))), (0, .inr (.inr (x0))), (1, .inl (x1)), (2, .inr (.inr (x2))), (3, .inr (.inr (x3)))], [], hd L69, 11, 91)) (fun L69 => ?_)
  refine T_go (S' := (120, [(4, .inl ((13 : Int32))), (0, .inr (.inr (x0))), (1, .inl (x1)), (2, .inr (.inr (x2))), (3, .inr (.inr (x3)))], [.inr (.inr (x0))], hd L69, 11, 91)) 6 rfl ?_
  refine TI_getR rfl (fun _ => ?_)
  refine T_let (Sf := fun r70 => (123, [(4, .inl ((13 : Int32))), (0, .inr (.inr (x0))), (1, .inl (x1)), (2, .inr (.inr (x2))), (3, .inr (.inr (x3)))], [.inr (.inr (r70))], hd L69, 11, 91)) (fun r70 => ?_)
  refine T_go (S' := (126, [(4, .inl ((13 : Int32))), (0, .inr (.inr (x0))), (1, .inl (x1)), (2, .inr (.inr (x2))), (3, .inr (.inr (x3)))], [.inl ((-1 : Int32)), .inl ((13 : Int32)), .inr (.inr (r70))], hd L69, 11, 91)) 2 rfl ?_
  refine TI_iast rfl (fun _ => ?_)
  refine T_let (Sf := fun L71 => (127, [(4, .inl ((13 : Int32))), (0, .inr (.inr (x0))), (1, .inl (x1)), (2, .inr (.inr (x2))), (3, .inr (.inr (x3)))], [], hd L71, 11, 91)) (fun L71 => ?_)
  exact s_X0_init_c2 x0 x1 x2 x3 L71
set_option maxRecDepth 20000 in
def f_X0_init (x0 : Nat) (x1 : Int32) (x2 : Nat) (x3 : Nat) (L : List eOp) : Option (List eOp) :=
  if 2 ≤ x0 ∧ ecats [] ≤ 8 then
  eLet ((2, 16, 4, 0, 0) :: L) fun L2 =>
  eLet ((hd L).1) fun r1 =>
  if ((hd L2).2.1 x0).1 = 0 then
  eLet ((5, x0, 3, r1, 0) :: L2) fun L3 =>
  eLet ((1, 11, 16, 0, 0) :: L3) fun L5 =>
  eLet ((hd L3).1) fun r4 =>
  if ((hd L5).2.1 x0).1 = 0 then
  eLet ((5, x0, 4, r4, 0) :: L5) fun L6 =>
  eLet ((1, 11, 4, 0, 0) :: L6) fun L8 =>
  eLet ((hd L6).1) fun r7 =>
  if ((hd L8).2.1 x0).1 = 0 then
  eLet ((5, x0, 5, r7, 0) :: L8) fun L9 =>
  eLet ((1, 11, 4, 0, 0) :: L9) fun L11 =>
  eLet ((hd L9).1) fun r10 =>
  if ((hd L11).2.1 x0).1 = 0 then
  eLet ((5, x0, 6, r10, 0) :: L11) fun L12 =>
  if ((hd L12).2.1 x0).1 = 0 then
  eLet ((4, x0, 7, 0, (0 : Int32)) :: L12) fun L13 =>
  eLet ((0, 8, 0, 0, 0) :: L13) fun L15 =>
  eLet ((hd L13).1) fun r14 =>
  if ((hd L15).2.1 r14).1 = 8 then
  Option.bind (f_X10_init r14 L15) fun L16 =>
  if ((hd L16).2.1 x0).1 = 0 then
  eLet ((5, x0, 8, r14, 0) :: L16) fun L17 =>
  if ((hd L17).2.1 x0).1 = 0 then
  eLet ((4, x0, 9, 0, (0 : Int32)) :: L17) fun L18 =>
  if ((hd L18).2.1 x0).1 = 0 then
  eLet ((4, x0, 10, 0, (-1 : Int32)) :: L18) fun L19 =>
  if ((hd L19).2.1 x0).1 = 0 then
  eLet ((4, x0, 11, 0, (0 : Int32)) :: L19) fun L20 =>
  if ((hd L20).2.1 x0).1 = 0 then
  eLet ((4, x0, 0, 0, x1) :: L20) fun L21 =>
  if ((hd L21).2.1 x0).1 = 0 then
  eLet ((5, x0, 1, x2, 0) :: L21) fun L22 =>
  if ((hd L22).2.1 x0).1 = 0 then
  eLet ((5, x0, 2, x3, 0) :: L22) fun L23 =>
  if ((hd L23).2.1 x0).1 = 0 then
  eLet ((hd L23).2.2.2.1 x0 3) fun r24 =>
  eLet ((0, 6, 0, 0, 0) :: L23) fun L26 =>
  eLet ((hd L23).1) fun r25 =>
  if ((hd L26).2.1 r25).1 = 6 then
  Option.bind (f_X7_init r25 L26) fun L27 =>
  if ((hd L27).2.1 r24).1 = 16 ∧ eix (0 : Int32) ((hd L27).2.1 r24).2 = true ∧ ((hd L27).2.1 r25).1 = 6 then
  eLet ((5, r24, 0, r25, 0) :: L27) fun L28 =>
  if ((hd L28).2.1 x0).1 = 0 then
  eLet ((hd L28).2.2.2.1 x0 3) fun r29 =>
  eLet ((0, 6, 0, 0, 0) :: L28) fun L31 =>
  eLet ((hd L28).1) fun r30 =>
  if ((hd L31).2.1 r30).1 = 6 then
  Option.bind (f_X7_init r30 L31) fun L32 =>
  if ((hd L32).2.1 r29).1 = 16 ∧ eix (1 : Int32) ((hd L32).2.1 r29).2 = true ∧ ((hd L32).2.1 r30).1 = 6 then
  eLet ((5, r29, 1, r30, 0) :: L32) fun L33 =>
  if ((hd L33).2.1 x0).1 = 0 then
  eLet ((hd L33).2.2.2.1 x0 3) fun r34 =>
  eLet ((0, 6, 0, 0, 0) :: L33) fun L36 =>
  eLet ((hd L33).1) fun r35 =>
  if ((hd L36).2.1 r35).1 = 6 then
  Option.bind (f_X7_init r35 L36) fun L37 =>
  if ((hd L37).2.1 r34).1 = 16 ∧ eix (2 : Int32) ((hd L37).2.1 r34).2 = true ∧ ((hd L37).2.1 r35).1 = 6 then
  eLet ((5, r34, 2, r35, 0) :: L37) fun L38 =>
  f_X0_init_c1 x0 x1 x2 x3 L38
  else none
  else none
  else none
  else none
  else none
  else none
  else none
  else none
  else none
  else none
  else none
  else none
  else none
  else none
  else none
  else none
  else none
  else none
  else none
  else none
  else none
  else none
  else none
set_option maxHeartbeats 4000000 in
set_option maxRecDepth 20000 in
theorem s_X0_init (x0 : Nat) (x1 : Int32) (x2 : Nat) (x3 : Nat) (L : List eOp) : ∀ L2, f_X0_init x0 x1 x2 x3 L = some L2 → Ew true 2 0 [.inr (.inr (x0)), .inl (x1), .inr (.inr (x2)), .inr (.inr (x3))] (hd L) (cI L2) := by
  refine T_meth (md := m_X0_init) (d0 := 1) (cv := cI) rfl (lb rfl) (lb rfl) ?_
  unfold f_X0_init
  show Snd true none _ _ _ _ (0, [(0, .inr (.inr (x0))), (1, .inl (x1)), (2, .inr (.inr (x2))), (3, .inr (.inr (x3)))], [], hd L, 0, 0)
  refine T_go (S' := (1, [(0, .inr (.inr (x0))), (1, .inl (x1)), (2, .inr (.inr (x2))), (3, .inr (.inr (x3)))], [.inr (.inr (x0))], hd L, 0, 0)) 1 rfl ?_
  refine TI_obj rfl (fun _ => ?_)
  show Snd true none _ _ _ _ (4, [(0, .inr (.inr (x0))), (1, .inl (x1)), (2, .inr (.inr (x2))), (3, .inr (.inr (x3)))], [], hd L, 0, 0)
  refine T_go (S' := (6, [(0, .inr (.inr (x0))), (1, .inl (x1)), (2, .inr (.inr (x2))), (3, .inr (.inr (x3)))], [.inl ((4 : Int32)), .inr (.inr (x0))], hd L, 0, 0)) 2 rfl ?_
  refine T_go (S' := (9, [(0, .inr (.inr (x0))), (1, .inl (x1)), (2, .inr (.inr (x2))), (3, .inr (.inr (x3)))], [.inr (.inr (((hd L).1))), .inr (.inr (x0))], hd ((2, 16, 4, 0, 0) :: L), 1, 4)) 1 rfl ?_
  refine T_let (Sf := fun L2 => (9, [(0, .inr (.inr (x0))), (1, .inl (x1)), (2, .inr (.inr (x2))), (3, .inr (.inr (x3)))], [.inr (.inr (((hd L).1))), .inr (.inr (x0))], hd L2, 1, 4)) (fun L2 => ?_)
  refine T_let (Sf := fun r1 => (9, [(0, .inr (.inr (x0))), (1, .inl (x1)), (2, .inr (.inr (x2))), (3, .inr (.inr (x3)))], [.inr (.inr (r1)), .inr (.inr (x0))], hd L2, 1, 4)) (fun r1 => ?_)
  refine TI_putR rfl (fun _ => ?_)
  refine T_let (Sf := fun L3 => (12, [(0, .inr (.inr (x0))), (1, .inl (x1)), (2, .inr (.inr (x2))), (3, .inr (.inr (x3)))], [], hd L3, 1, 4)) (fun L3 => ?_)
  refine T_go (S' := (15, [(0, .inr (.inr (x0))), (1, .inl (x1)), (2, .inr (.inr (x2))), (3, .inr (.inr (x3)))], [.inl ((16 : Int32)), .inr (.inr (x0))], hd L3, 1, 4)) 2 rfl ?_
  refine T_go (S' := (17, [(0, .inr (.inr (x0))), (1, .inl (x1)), (2, .inr (.inr (x2))), (3, .inr (.inr (x3)))], [.inr (.inr (((hd L3).1))), .inr (.inr (x0))], hd ((1, 11, 16, 0, 0) :: L3), 2, 20)) 1 rfl ?_
  refine T_let (Sf := fun L5 => (17, [(0, .inr (.inr (x0))), (1, .inl (x1)), (2, .inr (.inr (x2))), (3, .inr (.inr (x3)))], [.inr (.inr (((hd L3).1))), .inr (.inr (x0))], hd L5, 2, 20)) (fun L5 => ?_)
  refine T_let (Sf := fun r4 => (17, [(0, .inr (.inr (x0))), (1, .inl (x1)), (2, .inr (.inr (x2))), (3, .inr (.inr (x3)))], [.inr (.inr (r4)), .inr (.inr (x0))], hd L5, 2, 20)) (fun r4 => ?_)
  refine TI_putR rfl (fun _ => ?_)
  refine T_let (Sf := fun L6 => (20, [(0, .inr (.inr (x0))), (1, .inl (x1)), (2, .inr (.inr (x2))), (3, .inr (.inr (x3)))], [], hd L6, 2, 20)) (fun L6 => ?_)
  refine T_go (S' := (22, [(0, .inr (.inr (x0))), (1, .inl (x1)), (2, .inr (.inr (x2))), (3, .inr (.inr (x3)))], [.inl ((4 : Int32)), .inr (.inr (x0))], hd L6, 2, 20)) 2 rfl ?_
  refine T_go (S' := (24, [(0, .inr (.inr (x0))), (1, .inl (x1)), (2, .inr (.inr (x2))), (3, .inr (.inr (x3)))], [.inr (.inr (((hd L6).1))), .inr (.inr (x0))], hd ((1, 11, 4, 0, 0) :: L6), 3, 24)) 1 rfl ?_
  refine T_let (Sf := fun L8 => (24, [(0, .inr (.inr (x0))), (1, .inl (x1)), (2, .inr (.inr (x2))), (3, .inr (.inr (x3)))], [.inr (.inr (((hd L6).1))), .inr (.inr (x0))], hd L8, 3, 24)) (fun L8 => ?_)
  refine T_let (Sf := fun r7 => (24, [(0, .inr (.inr (x0))), (1, .inl (x1)), (2, .inr (.inr (x2))), (3, .inr (.inr (x3)))], [.inr (.inr (r7)), .inr (.inr (x0))], hd L8, 3, 24)) (fun r7 => ?_)
  refine TI_putR rfl (fun _ => ?_)
  refine T_let (Sf := fun L9 => (27, [(0, .inr (.inr (x0))), (1, .inl (x1)), (2, .inr (.inr (x2))), (3, .inr (.inr (x3)))], [], hd L9, 3, 24)) (fun L9 => ?_)
  refine T_go (S' := (29, [(0, .inr (.inr (x0))), (1, .inl (x1)), (2, .inr (.inr (x2))), (3, .inr (.inr (x3)))], [.inl ((4 : Int32)), .inr (.inr (x0))], hd L9, 3, 24)) 2 rfl ?_
  refine T_go (S' := (31, [(0, .inr (.inr (x0))), (1, .inl (x1)), (2, .inr (.inr (x2))), (3, .inr (.inr (x3)))], [.inr (.inr (((hd L9).1))), .inr (.inr (x0))], hd ((1, 11, 4, 0, 0) :: L9), 4, 28)) 1 rfl ?_
  refine T_let (Sf := fun L11 => (31, [(0, .inr (.inr (x0))), (1, .inl (x1)), (2, .inr (.inr (x2))), (3, .inr (.inr (x3)))], [.inr (.inr (((hd L9).1))), .inr (.inr (x0))], hd L11, 4, 28)) (fun L11 => ?_)
  refine T_let (Sf := fun r10 => (31, [(0, .inr (.inr (x0))), (1, .inl (x1)), (2, .inr (.inr (x2))), (3, .inr (.inr (x3)))], [.inr (.inr (r10)), .inr (.inr (x0))], hd L11, 4, 28)) (fun r10 => ?_)
  refine TI_putR rfl (fun _ => ?_)
  refine T_let (Sf := fun L12 => (34, [(0, .inr (.inr (x0))), (1, .inl (x1)), (2, .inr (.inr (x2))), (3, .inr (.inr (x3)))], [], hd L12, 4, 28)) (fun L12 => ?_)
  refine T_go (S' := (36, [(0, .inr (.inr (x0))), (1, .inl (x1)), (2, .inr (.inr (x2))), (3, .inr (.inr (x3)))], [.inl ((0 : Int32)), .inr (.inr (x0))], hd L12, 4, 28)) 2 rfl ?_
  refine TI_putI rfl (fun _ => ?_)
  refine T_let (Sf := fun L13 => (39, [(0, .inr (.inr (x0))), (1, .inl (x1)), (2, .inr (.inr (x2))), (3, .inr (.inr (x3)))], [], hd L13, 4, 28)) (fun L13 => ?_)
  refine T_go (S' := (40, [(0, .inr (.inr (x0))), (1, .inl (x1)), (2, .inr (.inr (x2))), (3, .inr (.inr (x3)))], [.inr (.inr (x0))], hd L13, 4, 28)) 1 rfl ?_
  refine T_go (S' := (43, [(0, .inr (.inr (x0))), (1, .inl (x1)), (2, .inr (.inr (x2))), (3, .inr (.inr (x3)))], [.inr (.inr (((hd L13).1))), .inr (.inr (x0))], hd ((0, 8, 0, 0, 0) :: L13), 5, 35)) 1 rfl ?_
  refine T_let (Sf := fun L15 => (43, [(0, .inr (.inr (x0))), (1, .inl (x1)), (2, .inr (.inr (x2))), (3, .inr (.inr (x3)))], [.inr (.inr (((hd L13).1))), .inr (.inr (x0))], hd L15, 5, 35)) (fun L15 => ?_)
  refine T_let (Sf := fun r14 => (43, [(0, .inr (.inr (x0))), (1, .inl (x1)), (2, .inr (.inr (x2))), (3, .inr (.inr (x3)))], [.inr (.inr (r14)), .inr (.inr (x0))], hd L15, 5, 35)) (fun r14 => ?_)
  refine T_go (S' := (44, [(0, .inr (.inr (x0))), (1, .inl (x1)), (2, .inr (.inr (x2))), (3, .inr (.inr (x3)))], [.inr (.inr (r14)), .inr (.inr (r14)), .inr (.inr (x0))], hd L15, 5, 35)) 1 rfl ?_
  refine TI_isp (as := [.inr (.inr (r14))]) (rest := [.inr (.inr (r14)), .inr (.inr (x0))]) (st := [.inr (.inr (r14)), .inr (.inr (r14)), .inr (.inr (x0))]) rfl rfl rfl ⟨lb rfl, lb rfl, lb rfl, lb rfl⟩ (fun _ h => Ew_le (lb rfl) (s_X10_init r14 L15 _ h)) (fun _ L16 => ?_)
  show Snd true none _ _ _ _ (47, [(0, .inr (.inr (x0))), (1, .inl (x1)), (2, .inr (.inr (x2))), (3, .inr (.inr (x3)))], [.inr (.inr (r14)), .inr (.inr (x0))], hd L16, 7, 67)
  refine TI_putR rfl (fun _ => ?_)
  refine T_let (Sf := fun L17 => (50, [(0, .inr (.inr (x0))), (1, .inl (x1)), (2, .inr (.inr (x2))), (3, .inr (.inr (x3)))], [], hd L17, 7, 67)) (fun L17 => ?_)
  refine T_go (S' := (52, [(0, .inr (.inr (x0))), (1, .inl (x1)), (2, .inr (.inr (x2))), (3, .inr (.inr (x3)))], [.inl ((0 : Int32)), .inr (.inr (x0))], hd L17, 7, 67)) 2 rfl ?_
  refine TI_putI rfl (fun _ => ?_)
  refine T_let (Sf := fun L18 => (55, [(0, .inr (.inr (x0))), (1, .inl (x1)), (2, .inr (.inr (x2))), (3, .inr (.inr (x3)))], [], hd L18, 7, 67)) (fun L18 => ?_)
  refine T_go (S' := (57, [(0, .inr (.inr (x0))), (1, .inl (x1)), (2, .inr (.inr (x2))), (3, .inr (.inr (x3)))], [.inl ((-1 : Int32)), .inr (.inr (x0))], hd L18, 7, 67)) 2 rfl ?_
  refine TI_putI rfl (fun _ => ?_)
  refine T_let (Sf := fun L19 => (60, [(0, .inr (.inr (x0))), (1, .inl (x1)), (2, .inr (.inr (x2))), (3, .inr (.inr (x3)))], [], hd L19, 7, 67)) (fun L19 => ?_)
  refine T_go (S' := (62, [(0, .inr (.inr (x0))), (1, .inl (x1)), (2, .inr (.inr (x2))), (3, .inr (.inr (x3)))], [.inl ((0 : Int32)), .inr (.inr (x0))], hd L19, 7, 67)) 2 rfl ?_
  refine TI_putI rfl (fun _ => ?_)
  refine T_let (Sf := fun L20 => (65, [(0, .inr (.inr (x0))), (1, .inl (x1)), (2, .inr (.inr (x2))), (3, .inr (.inr (x3)))], [], hd L20, 7, 67)) (fun L20 => ?_)
  refine T_go (S' := (67, [(0, .inr (.inr (x0))), (1, .inl (x1)), (2, .inr (.inr (x2))), (3, .inr (.inr (x3)))], [.inl (x1), .inr (.inr (x0))], hd L20, 7, 67)) 2 rfl ?_
  refine TI_putI rfl (fun _ => ?_)
  refine T_let (Sf := fun L21 => (70, [(0, .inr (.inr (x0))), (1, .inl (x1)), (2, .inr (.inr (x2))), (3, .inr (.inr (x3)))], [], hd L21, 7, 67)) (fun L21 => ?_)
  refine T_go (S' := (72, [(0, .inr (.inr (x0))), (1, .inl (x1)), (2, .inr (.inr (x2))), (3, .inr (.inr (x3)))], [.inr (.inr (x2)), .inr (.inr (x0))], hd L21, 7, 67)) 2 rfl ?_
  refine TI_putR rfl (fun _ => ?_)
  refine T_let (Sf := fun L22 => (75, [(0, .inr (.inr (x0))), (1, .inl (x1)), (2, .inr (.inr (x2))), (3, .inr (.inr (x3)))], [], hd L22, 7, 67)) (fun L22 => ?_)
  refine T_go (S' := (77, [(0, .inr (.inr (x0))), (1, .inl (x1)), (2, .inr (.inr (x2))), (3, .inr (.inr (x3)))], [.inr (.inr (x3)), .inr (.inr (x0))], hd L22, 7, 67)) 2 rfl ?_
  refine TI_putR rfl (fun _ => ?_)
  refine T_let (Sf := fun L23 => (80, [(0, .inr (.inr (x0))), (1, .inl (x1)), (2, .inr (.inr (x2))), (3, .inr (.inr (x3)))], [], hd L23, 7, 67)) (fun L23 => ?_)
  refine T_go (S' := (90, [(4, .inl ((0 : Int32))), (0, .inr (.inr (x0))), (1, .inl (x1)), (2, .inr (.inr (x2))), (3, .inr (.inr (x3)))], [.inr (.inr (x0))], hd L23, 7, 67)) 6 rfl ?_
  refine TI_getR rfl (fun _ => ?_)
  refine T_let (Sf := fun r24 => (93, [(4, .inl ((0 : Int32))), (0, .inr (.inr (x0))), (1, .inl (x1)), (2, .inr (.inr (x2))), (3, .inr (.inr (x3)))], [.inr (.inr (r24))], hd L23, 7, 67)) (fun r24 => ?_)
  refine T_go (S' := (95, [(4, .inl ((0 : Int32))), (0, .inr (.inr (x0))), (1, .inl (x1)), (2, .inr (.inr (x2))), (3, .inr (.inr (x3)))], [.inl ((0 : Int32)), .inr (.inr (r24))], hd L23, 7, 67)) 1 rfl ?_
  refine T_go (S' := (98, [(4, .inl ((0 : Int32))), (0, .inr (.inr (x0))), (1, .inl (x1)), (2, .inr (.inr (x2))), (3, .inr (.inr (x3)))], [.inr (.inr (((hd L23).1))), .inl ((0 : Int32)), .inr (.inr (r24))], hd ((0, 6, 0, 0, 0) :: L23), 8, 73)) 1 rfl ?_
  refine T_let (Sf := fun L26 => (98, [(4, .inl ((0 : Int32))), (0, .inr (.inr (x0))), (1, .inl (x1)), (2, .inr (.inr (x2))), (3, .inr (.inr (x3)))], [.inr (.inr (((hd L23).1))), .inl ((0 : Int32)), .inr (.inr (r24))], hd L26, 8, 73)) (fun L26 => ?_)
  refine T_let (Sf := fun r25 => (98, [(4, .inl ((0 : Int32))), (0, .inr (.inr (x0))), (1, .inl (x1)), (2, .inr (.inr (x2))), (3, .inr (.inr (x3)))], [.inr (.inr (r25)), .inl ((0 : Int32)), .inr (.inr (r24))], hd L26, 8, 73)) (fun r25 => ?_)
  refine T_go (S' := (99, [(4, .inl ((0 : Int32))), (0, .inr (.inr (x0))), (1, .inl (x1)), (2, .inr (.inr (x2))), (3, .inr (.inr (x3)))], [.inr (.inr (r25)), .inr (.inr (r25)), .inl ((0 : Int32)), .inr (.inr (r24))], hd L26, 8, 73)) 1 rfl ?_
  refine TI_isp (as := [.inr (.inr (r25))]) (rest := [.inr (.inr (r25)), .inl ((0 : Int32)), .inr (.inr (r24))]) (st := [.inr (.inr (r25)), .inr (.inr (r25)), .inl ((0 : Int32)), .inr (.inr (r24))]) rfl rfl rfl ⟨lb rfl, lb rfl, lb rfl, lb rfl⟩ (fun _ h => Ew_le (lb rfl) (s_X7_init r25 L26 _ h)) (fun _ L27 => ?_)
  show Snd true none _ _ _ _ (102, [(4, .inl ((0 : Int32))), (0, .inr (.inr (x0))), (1, .inl (x1)), (2, .inr (.inr (x2))), (3, .inr (.inr (x3)))], [.inr (.inr (r25)), .inl ((0 : Int32)), .inr (.inr (r24))], hd L27, 8, 73)
  refine TI_aast rfl (fun _ => ?_)
  refine T_let (Sf := fun L28 => (103, [(4, .inl ((0 : Int32))), (0, .inr (.inr (x0))), (1, .inl (x1)), (2, .inr (.inr (x2))), (3, .inr (.inr (x3)))], [], hd L28, 8, 73)) (fun L28 => ?_)
  refine T_go (S' := (90, [(4, .inl ((1 : Int32))), (0, .inr (.inr (x0))), (1, .inl (x1)), (2, .inr (.inr (x2))), (3, .inr (.inr (x3)))], [.inr (.inr (x0))], hd L28, 8, 73)) 6 rfl ?_
  refine TI_getR rfl (fun _ => ?_)
  refine T_let (Sf := fun r29 => (93, [(4, .inl ((1 : Int32))), (0, .inr (.inr (x0))), (1, .inl (x1)), (2, .inr (.inr (x2))), (3, .inr (.inr (x3)))], [.inr (.inr (r29))], hd L28, 8, 73)) (fun r29 => ?_)
  refine T_go (S' := (95, [(4, .inl ((1 : Int32))), (0, .inr (.inr (x0))), (1, .inl (x1)), (2, .inr (.inr (x2))), (3, .inr (.inr (x3)))], [.inl ((1 : Int32)), .inr (.inr (r29))], hd L28, 8, 73)) 1 rfl ?_
  refine T_go (S' := (98, [(4, .inl ((1 : Int32))), (0, .inr (.inr (x0))), (1, .inl (x1)), (2, .inr (.inr (x2))), (3, .inr (.inr (x3)))], [.inr (.inr (((hd L28).1))), .inl ((1 : Int32)), .inr (.inr (r29))], hd ((0, 6, 0, 0, 0) :: L28), 9, 79)) 1 rfl ?_
  refine T_let (Sf := fun L31 => (98, [(4, .inl ((1 : Int32))), (0, .inr (.inr (x0))), (1, .inl (x1)), (2, .inr (.inr (x2))), (3, .inr (.inr (x3)))], [.inr (.inr (((hd L28).1))), .inl ((1 : Int32)), .inr (.inr (r29))], hd L31, 9, 79)) (fun L31 => ?_)
  refine T_let (Sf := fun r30 => (98, [(4, .inl ((1 : Int32))), (0, .inr (.inr (x0))), (1, .inl (x1)), (2, .inr (.inr (x2))), (3, .inr (.inr (x3)))], [.inr (.inr (r30)), .inl ((1 : Int32)), .inr (.inr (r29))], hd L31, 9, 79)) (fun r30 => ?_)
  refine T_go (S' := (99, [(4, .inl ((1 : Int32))), (0, .inr (.inr (x0))), (1, .inl (x1)), (2, .inr (.inr (x2))), (3, .inr (.inr (x3)))], [.inr (.inr (r30)), .inr (.inr (r30)), .inl ((1 : Int32)), .inr (.inr (r29))], hd L31, 9, 79)) 1 rfl ?_
  refine TI_isp (as := [.inr (.inr (r30))]) (rest := [.inr (.inr (r30)), .inl ((1 : Int32)), .inr (.inr (r29))]) (st := [.inr (.inr (r30)), .inr (.inr (r30)), .inl ((1 : Int32)), .inr (.inr (r29))]) rfl rfl rfl ⟨lb rfl, lb rfl, lb rfl, lb rfl⟩ (fun _ h => Ew_le (lb rfl) (s_X7_init r30 L31 _ h)) (fun _ L32 => ?_)
  show Snd true none _ _ _ _ (102, [(4, .inl ((1 : Int32))), (0, .inr (.inr (x0))), (1, .inl (x1)), (2, .inr (.inr (x2))), (3, .inr (.inr (x3)))], [.inr (.inr (r30)), .inl ((1 : Int32)), .inr (.inr (r29))], hd L32, 9, 79)
  refine TI_aast rfl (fun _ => ?_)
  refine T_let (Sf := fun L33 => (103, [(4, .inl ((1 : Int32))), (0, .inr (.inr (x0))), (1, .inl (x1)), (2, .inr (.inr (x2))), (3, .inr (.inr (x3)))], [], hd L33, 9, 79)) (fun L33 => ?_)
  refine T_go (S' := (90, [(4, .inl ((2 : Int32))), (0, .inr (.inr (x0))), (1, .inl (x1)), (2, .inr (.inr (x2))), (3, .inr (.inr (x3)))], [.inr (.inr (x0))], hd L33, 9, 79)) 6 rfl ?_
  refine TI_getR rfl (fun _ => ?_)
  refine T_let (Sf := fun r34 => (93, [(4, .inl ((2 : Int32))), (0, .inr (.inr (x0))), (1, .inl (x1)), (2, .inr (.inr (x2))), (3, .inr (.inr (x3)))], [.inr (.inr (r34))], hd L33, 9, 79)) (fun r34 => ?_)
  refine T_go (S' := (95, [(4, .inl ((2 : Int32))), (0, .inr (.inr (x0))), (1, .inl (x1)), (2, .inr (.inr (x2))), (3, .inr (.inr (x3)))], [.inl ((2 : Int32)), .inr (.inr (r34))], hd L33, 9, 79)) 1 rfl ?_
  refine T_go (S' := (98, [(4, .inl ((2 : Int32))), (0, .inr (.inr (x0))), (1, .inl (x1)), (2, .inr (.inr (x2))), (3, .inr (.inr (x3)))], [.inr (.inr (((hd L33).1))), .inl ((2 : Int32)), .inr (.inr (r34))], hd ((0, 6, 0, 0, 0) :: L33), 10, 85)) 1 rfl ?_
  refine T_let (Sf := fun L36 => (98, [(4, .inl ((2 : Int32))), (0, .inr (.inr (x0))), (1, .inl (x1)), (2, .inr (.inr (x2))), (3, .inr (.inr (x3)))], [.inr (.inr (((hd L33).1))), .inl ((2 : Int32)), .inr (.inr (r34))], hd L36, 10, 85)) (fun L36 => ?_)
  refine T_let (Sf := fun r35 => (98, [(4, .inl ((2 : Int32))), (0, .inr (.inr (x0))), (1, .inl (x1)), (2, .inr (.inr (x2))), (3, .inr (.inr (x3)))], [.inr (.inr (r35)), .inl ((2 : Int32)), .inr (.inr (r34))], hd L36, 10, 85)) (fun r35 => ?_)
  refine T_go (S' := (99, [(4, .inl ((2 : Int32))), (0, .inr (.inr (x0))), (1, .inl (x1)), (2, .inr (.inr (x2))), (3, .inr (.inr (x3)))], [.inr (.inr (r35)), .inr (.inr (r35)), .inl ((2 : Int32)), .inr (.inr (r34))], hd L36, 10, 85)) 1 rfl ?_
  refine TI_isp (as := [.inr (.inr (r35))]) (rest := [.inr (.inr (r35)), .inl ((2 : Int32)), .inr (.inr (r34))]) (st := [.inr (.inr (r35)), .inr (.inr (r35)), .inl ((2 : Int32)), .inr (.inr (r34))]) rfl rfl rfl ⟨lb rfl, lb rfl, lb rfl, lb rfl⟩ (fun _ h => Ew_le (lb rfl) (s_X7_init r35 L36 _ h)) (fun _ L37 => ?_)
  show Snd true none _ _ _ _ (102, [(4, .inl ((2 : Int32))), (0, .inr (.inr (x0))), (1, .inl (x1)), (2, .inr (.inr (x2))), (3, .inr (.inr (x3)))], [.inr (.inr (r35)), .inl ((2 : Int32)), .inr (.inr (r34))], hd L37, 10, 85)
  refine TI_aast rfl (fun _ => ?_)
  refine T_let (Sf := fun L38 => (103, [(4, .inl ((2 : Int32))), (0, .inr (.inr (x0))), (1, .inl (x1)), (2, .inr (.inr (x2))), (3, .inr (.inr (x3)))], [], hd L38, 10, 85)) (fun L38 => ?_)
  exact s_X0_init_c1 x0 x1 x2 x3 L38
set_option maxRecDepth 20000 in
def f_X2_init (x0 : Nat) (L : List eOp) : Option (List eOp) :=
  if 2 ≤ x0 ∧ ecats [] ≤ 8 then
  if ((hd L).2.1 x0).1 = 2 then
  eLet ((4, x0, 0, 0, (0 : Int32)) :: L) fun L1 =>
  if ((hd L1).2.1 x0).1 = 2 then
  eLet ((4, x0, 1, 0, (-1 : Int32)) :: L1) fun L2 =>
  if ((hd L2).2.1 x0).1 = 2 then
  eLet ((4, x0, 2, 0, (0 : Int32)) :: L2) fun L3 =>
  if ((hd L3).2.1 x0).1 = 2 ∧ eB (0 : Int32) = true then
  eLet ((4, x0, 3, 0, (0 : Int32)) :: L3) fun L4 =>
  if ((hd L4).2.1 x0).1 = 2 then
  eLet ((4, x0, 4, 0, (0 : Int32)) :: L4) fun L5 =>
  if ((hd L5).2.1 x0).1 = 2 then
  eLet ((4, x0, 5, 0, (0 : Int32)) :: L5) fun L6 =>
  eLet ((1, 11, 4, 0, 0) :: L6) fun L8 =>
  eLet ((hd L6).1) fun r7 =>
  if ((hd L8).2.1 x0).1 = 2 then
  eLet ((5, x0, 6, r7, 0) :: L8) fun L9 =>
  if ((hd L9).2.1 x0).1 = 2 then
  eLet ((4, x0, 7, 0, (0 : Int32)) :: L9) fun L10 =>
  some L10
  else none
  else none
  else none
  else none
  else none
  else none
  else none
  else none
  else none
set_option maxHeartbeats 4000000 in
set_option maxRecDepth 20000 in
theorem s_X2_init (x0 : Nat) (L : List eOp) : ∀ L2, f_X2_init x0 L = some L2 → Ew true 1 33 [.inr (.inr (x0))] (hd L) (cI L2) := by
  refine T_meth (md := m_X2_init) (d0 := 0) (cv := cI) rfl (lb rfl) (lb rfl) ?_
  unfold f_X2_init
  show Snd true none _ _ _ _ (0, [(0, .inr (.inr (x0)))], [], hd L, 0, 0)
  refine T_go (S' := (1, [(0, .inr (.inr (x0)))], [.inr (.inr (x0))], hd L, 0, 0)) 1 rfl ?_
  refine TI_obj rfl (fun _ => ?_)
  show Snd true none _ _ _ _ (4, [(0, .inr (.inr (x0)))], [], hd L, 0, 0)
  refine T_go (S' := (6, [(0, .inr (.inr (x0)))], [.inl ((0 : Int32)), .inr (.inr (x0))], hd L, 0, 0)) 2 rfl ?_
  refine TI_putI rfl (fun _ => ?_)
  refine T_let (Sf := fun L1 => (9, [(0, .inr (.inr (x0)))], [], hd L1, 0, 0)) (fun L1 => ?_)
  refine T_go (S' := (11, [(0, .inr (.inr (x0)))], [.inl ((-1 : Int32)), .inr (.inr (x0))], hd L1, 0, 0)) 2 rfl ?_
  refine TI_putI rfl (fun _ => ?_)
  refine T_let (Sf := fun L2 => (14, [(0, .inr (.inr (x0)))], [], hd L2, 0, 0)) (fun L2 => ?_)
  refine T_go (S' := (16, [(0, .inr (.inr (x0)))], [.inl ((0 : Int32)), .inr (.inr (x0))], hd L2, 0, 0)) 2 rfl ?_
  refine TI_putI rfl (fun _ => ?_)
  refine T_let (Sf := fun L3 => (19, [(0, .inr (.inr (x0)))], [], hd L3, 0, 0)) (fun L3 => ?_)
  refine T_go (S' := (21, [(0, .inr (.inr (x0)))], [.inl ((0 : Int32)), .inr (.inr (x0))], hd L3, 0, 0)) 2 rfl ?_
  refine TI_putZ rfl (fun _ => ?_)
  refine T_let (Sf := fun L4 => (24, [(0, .inr (.inr (x0)))], [], hd L4, 0, 0)) (fun L4 => ?_)
  refine T_go (S' := (26, [(0, .inr (.inr (x0)))], [.inl ((0 : Int32)), .inr (.inr (x0))], hd L4, 0, 0)) 2 rfl ?_
  refine TI_putI rfl (fun _ => ?_)
  refine T_let (Sf := fun L5 => (29, [(0, .inr (.inr (x0)))], [], hd L5, 0, 0)) (fun L5 => ?_)
  refine T_go (S' := (31, [(0, .inr (.inr (x0)))], [.inl ((0 : Int32)), .inr (.inr (x0))], hd L5, 0, 0)) 2 rfl ?_
  refine TI_putI rfl (fun _ => ?_)
  refine T_let (Sf := fun L6 => (34, [(0, .inr (.inr (x0)))], [], hd L6, 0, 0)) (fun L6 => ?_)
  refine T_go (S' := (36, [(0, .inr (.inr (x0)))], [.inl ((4 : Int32)), .inr (.inr (x0))], hd L6, 0, 0)) 2 rfl ?_
  refine T_go (S' := (38, [(0, .inr (.inr (x0)))], [.inr (.inr (((hd L6).1))), .inr (.inr (x0))], hd ((1, 11, 4, 0, 0) :: L6), 1, 4)) 1 rfl ?_
  refine T_let (Sf := fun L8 => (38, [(0, .inr (.inr (x0)))], [.inr (.inr (((hd L6).1))), .inr (.inr (x0))], hd L8, 1, 4)) (fun L8 => ?_)
  refine T_let (Sf := fun r7 => (38, [(0, .inr (.inr (x0)))], [.inr (.inr (r7)), .inr (.inr (x0))], hd L8, 1, 4)) (fun r7 => ?_)
  refine TI_putR rfl (fun _ => ?_)
  refine T_let (Sf := fun L9 => (41, [(0, .inr (.inr (x0)))], [], hd L9, 1, 4)) (fun L9 => ?_)
  refine T_go (S' := (43, [(0, .inr (.inr (x0)))], [.inl ((0 : Int32)), .inr (.inr (x0))], hd L9, 1, 4)) 2 rfl ?_
  refine TI_putI rfl (fun _ => ?_)
  refine T_let (Sf := fun L10 => (46, [(0, .inr (.inr (x0)))], [], hd L10, 1, 4)) (fun L10 => ?_)
  exact T_ret rfl
set_option maxRecDepth 20000 in
def f_X1_init_c2 (x0 : Nat) (x1 : Nat) (x2 : Nat) (L : List eOp) : Option (List eOp) :=
  if ((hd L).2.1 x0).1 = 1 then
  eLet ((hd L).2.2.2.1 x0 0) fun r81 =>
  eLet ((0, 2, 0, 0, 0) :: L) fun L83 =>
  eLet ((hd L).1) fun r82 =>
  if ((hd L83).2.1 r82).1 = 2 then
  Option.bind (f_X2_init r82 L83) fun L84 =>
  if ((hd L84).2.1 r81).1 = 15 ∧ eix (15 : Int32) ((hd L84).2.1 r81).2 = true ∧ ((hd L84).2.1 r82).1 = 2 then
  eLet ((5, r81, 15, r82, 0) :: L84) fun L85 =>
  some L85
  else none
  else none
  else none
set_option maxHeartbeats 4000000 in
set_option maxRecDepth 20000 in
theorem s_X1_init_c2 (x0 : Nat) (x1 : Nat) (x2 : Nat) (L : List eOp) : Snd true none 1 m_X1_init (f_X1_init_c2 x0 x1 x2 L) cI (44, [(3, .inl ((14 : Int32))), (0, .inr (.inr (x0))), (1, .inr (.inr (x1))), (2, .inr (.inr (x2)))], [], hd L, 31, 196) := by
  unfold f_X1_init_c2
  refine T_go (S' := (32, [(3, .inl ((15 : Int32))), (0, .inr (.inr (x0))), (1, .inr (.inr (x1))), (2, .inr (.inr (x2)))], [.inr (.inr (x0))], hd L, 31, 196)) 6 rfl ?_
  refine TI_getR rfl (fun _ => ?_)
  refine T_let (Sf := fun r81 => (35, [(3, .inl ((15 : Int32))), (0, .inr (.inr (x0))), (1, .inr (.inr (x1))), (2, .inr (.inr (x2)))], [.inr (.inr (r81))], hd L, 31, 196)) (fun r81 => ?_)
  refine T_go (S' := (36, [(3, .inl ((15 : Int32))), (0, .inr (.inr (x0))), (1, .inr (.inr (x1))), (2, .inr (.inr (x2)))], [.inl ((15 : Int32)), .inr (.inr (r81))], hd L, 31, 196)) 1 rfl ?_
  refine T_go (S' := (39, [(3, .inl ((15 : Int32))), (0, .inr (.inr (x0))), (1, .inr (.inr (x1))), (2, .inr (.inr (x2)))], [.inr (.inr (((hd L).1))), .inl ((15 : Int32)), .inr (.inr (r81))], hd ((0, 2, 0, 0, 0) :: L), 32, 204)) 1 rfl ?_
  refine T_let (Sf := fun L83 => (39, [(3, .inl ((15 : Int32))), (0, .inr (.inr (x0))), (1, .inr (.inr (x1))), (2, .inr (.inr (x2)))], [.inr (.inr (((hd L).1))), .inl ((15 : Int32)), .inr (.inr (r81))], hd L83, 32, 204)) (fun L83 => ?_)
  refine T_let (Sf := fun r82 => (39, [(3, .inl ((15 : Int32))), (0, .inr (.inr (x0))), (1, .inr (.inr (x1))), (2, .inr (.inr (x2)))], [.inr (.inr (r82)), .inl ((15 : Int32)), .inr (.inr (r81))], hd L83, 32, 204)) (fun r82 => ?_)
  refine T_go (S' := (40, [(3, .inl ((15 : Int32))), (0, .inr (.inr (x0))), (1, .inr (.inr (x1))), (2, .inr (.inr (x2)))], [.inr (.inr (r82)), .inr (.inr (r82)), .inl ((15 : Int32)), .inr (.inr (r81))], hd L83, 32, 204)) 1 rfl ?_
  refine TI_isp (as := [.inr (.inr (r82))]) (rest := [.inr (.inr (r82)), .inl ((15 : Int32)), .inr (.inr (r81))]) (st := [.inr (.inr (r82)), .inr (.inr (r82)), .inl ((15 : Int32)), .inr (.inr (r81))]) rfl rfl rfl ⟨lb rfl, lb rfl, lb rfl, lb rfl⟩ (fun _ h => Ew_le (lb rfl) (s_X2_init r82 L83 _ h)) (fun _ L84 => ?_)
  show Snd true none _ _ _ _ (43, [(3, .inl ((15 : Int32))), (0, .inr (.inr (x0))), (1, .inr (.inr (x1))), (2, .inr (.inr (x2)))], [.inr (.inr (r82)), .inl ((15 : Int32)), .inr (.inr (r81))], hd L84, 33, 208)
  refine TI_aast rfl (fun _ => ?_)
  refine T_let (Sf := fun L85 => (44, [(3, .inl ((15 : Int32))), (0, .inr (.inr (x0))), (1, .inr (.inr (x1))), (2, .inr (.inr (x2)))], [], hd L85, 33, 208)) (fun L85 => ?_)
  refine T_go (S' := (50, [(3, .inl ((16 : Int32))), (0, .inr (.inr (x0))), (1, .inr (.inr (x1))), (2, .inr (.inr (x2)))], [], hd L85, 33, 208)) 5 rfl ?_
  exact T_ret rfl
set_option maxRecDepth 20000 in
def f_X1_init_c1 (x0 : Nat) (x1 : Nat) (x2 : Nat) (L : List eOp) : Option (List eOp) :=
  if ((hd L).2.1 x0).1 = 1 then
  eLet ((hd L).2.2.2.1 x0 0) fun r41 =>
  eLet ((0, 2, 0, 0, 0) :: L) fun L43 =>
  eLet ((hd L).1) fun r42 =>
  if ((hd L43).2.1 r42).1 = 2 then
  Option.bind (f_X2_init r42 L43) fun L44 =>
  if ((hd L44).2.1 r41).1 = 15 ∧ eix (7 : Int32) ((hd L44).2.1 r41).2 = true ∧ ((hd L44).2.1 r42).1 = 2 then
  eLet ((5, r41, 7, r42, 0) :: L44) fun L45 =>
  if ((hd L45).2.1 x0).1 = 1 then
  eLet ((hd L45).2.2.2.1 x0 0) fun r46 =>
  eLet ((0, 2, 0, 0, 0) :: L45) fun L48 =>
  eLet ((hd L45).1) fun r47 =>
  if ((hd L48).2.1 r47).1 = 2 then
  Option.bind (f_X2_init r47 L48) fun L49 =>
  if ((hd L49).2.1 r46).1 = 15 ∧ eix (8 : Int32) ((hd L49).2.1 r46).2 = true ∧ ((hd L49).2.1 r47).1 = 2 then
  eLet ((5, r46, 8, r47, 0) :: L49) fun L50 =>
  if ((hd L50).2.1 x0).1 = 1 then
  eLet ((hd L50).2.2.2.1 x0 0) fun r51 =>
  eLet ((0, 2, 0, 0, 0) :: L50) fun L53 =>
  eLet ((hd L50).1) fun r52 =>
  if ((hd L53).2.1 r52).1 = 2 then
  Option.bind (f_X2_init r52 L53) fun L54 =>
  if ((hd L54).2.1 r51).1 = 15 ∧ eix (9 : Int32) ((hd L54).2.1 r51).2 = true ∧ ((hd L54).2.1 r52).1 = 2 then
  eLet ((5, r51, 9, r52, 0) :: L54) fun L55 =>
  if ((hd L55).2.1 x0).1 = 1 then
  eLet ((hd L55).2.2.2.1 x0 0) fun r56 =>
  eLet ((0, 2, 0, 0, 0) :: L55) fun L58 =>
  eLet ((hd L55).1) fun r57 =>
  if ((hd L58).2.1 r57).1 = 2 then
  Option.bind (f_X2_init r57 L58) fun L59 =>
  if ((hd L59).2.1 r56).1 = 15 ∧ eix (10 : Int32) ((hd L59).2.1 r56).2 = true ∧ ((hd L59).2.1 r57).1 = 2 then
  eLet ((5, r56, 10, r57, 0) :: L59) fun L60 =>
  if ((hd L60).2.1 x0).1 = 1 then
  eLet ((hd L60).2.2.2.1 x0 0) fun r61 =>
  eLet ((0, 2, 0, 0, 0) :: L60) fun L63 =>
  eLet ((hd L60).1) fun r62 =>
  if ((hd L63).2.1 r62).1 = 2 then
  Option.bind (f_X2_init r62 L63) fun L64 =>
  if ((hd L64).2.1 r61).1 = 15 ∧ eix (11 : Int32) ((hd L64).2.1 r61).2 = true ∧ ((hd L64).2.1 r62).1 = 2 then
  eLet ((5, r61, 11, r62, 0) :: L64) fun L65 =>
  if ((hd L65).2.1 x0).1 = 1 then
  eLet ((hd L65).2.2.2.1 x0 0) fun r66 =>
  eLet ((0, 2, 0, 0, 0) :: L65) fun L68 =>
  eLet ((hd L65).1) fun r67 =>
  if ((hd L68).2.1 r67).1 = 2 then
  Option.bind (f_X2_init r67 L68) fun L69 =>
  if ((hd L69).2.1 r66).1 = 15 ∧ eix (12 : Int32) ((hd L69).2.1 r66).2 = true ∧ ((hd L69).2.1 r67).1 = 2 then
  eLet ((5, r66, 12, r67, 0) :: L69) fun L70 =>
  if ((hd L70).2.1 x0).1 = 1 then
  eLet ((hd L70).2.2.2.1 x0 0) fun r71 =>
  eLet ((0, 2, 0, 0, 0) :: L70) fun L73 =>
  eLet ((hd L70).1) fun r72 =>
  if ((hd L73).2.1 r72).1 = 2 then
  Option.bind (f_X2_init r72 L73) fun L74 =>
  if ((hd L74).2.1 r71).1 = 15 ∧ eix (13 : Int32) ((hd L74).2.1 r71).2 = true ∧ ((hd L74).2.1 r72).1 = 2 then
  eLet ((5, r71, 13, r72, 0) :: L74) fun L75 =>
  if ((hd L75).2.1 x0).1 = 1 then
  eLet ((hd L75).2.2.2.1 x0 0) fun r76 =>
  eLet ((0, 2, 0, 0, 0) :: L75) fun L78 =>
  eLet ((hd L75).1) fun r77 =>
  if ((hd L78).2.1 r77).1 = 2 then
  Option.bind (f_X2_init r77 L78) fun L79 =>
  if ((hd L79).2.1 r76).1 = 15 ∧ eix (14 : Int32) ((hd L79).2.1 r76).2 = true ∧ ((hd L79).2.1 r77).1 = 2 then
  eLet ((5, r76, 14, r77, 0) :: L79) fun L80 =>
  f_X1_init_c2 x0 x1 x2 L80
  else none
  else none
  else none
  else none
  else none
  else none
  else none
  else none
  else none
  else none
  else none
  else none
  else none
  else none
  else none
  else none
  else none
  else none
  else none
  else none
  else none
  else none
  else none
  else none
set_option maxHeartbeats 4000000 in
set_option maxRecDepth 20000 in
theorem s_X1_init_c1 (x0 : Nat) (x1 : Nat) (x2 : Nat) (L : List eOp) : Snd true none 1 m_X1_init (f_X1_init_c1 x0 x1 x2 L) cI (44, [(3, .inl ((6 : Int32))), (0, .inr (.inr (x0))), (1, .inr (.inr (x1))), (2, .inr (.inr (x2)))], [], hd L, 15, 100) := by
  unfold f_X1_init_c1
  refine T_go (S' := (32, [(3, .inl ((7 : Int32))), (0, .inr (.inr (x0))), (1, .inr (.inr (x1))), (2, .inr (.inr (x2)))], [.inr (.inr (x0))], hd L, 15, 100)) 6 rfl ?_
  refine TI_getR rfl (fun _ => ?_)
  refine T_let (Sf := fun r41 => (35, [(3, .inl ((7 : Int32))), (0, .inr (.inr (x0))), (1, .inr (.inr (x1))), (2, .inr (.inr (x2)))], [.inr (.inr (r41))], hd L, 15, 100)) (fun r41 => ?_)
  refine T_go (S' := (36, [(3, .inl ((7 : Int32))), (0, .inr (.inr (x0))), (1, .inr (.inr (x1))), (2, .inr (.inr (x2)))], [.inl ((7 : Int32)), .inr (.inr (r41))], hd L, 15, 100)) 1 rfl ?_
  refine T_go (S' := (39, [(3, .inl ((7 : Int32))), (0, .inr (.inr (x0))), (1, .inr (.inr (x1))), (2, .inr (.inr (x2)))], [.inr (.inr (((hd L).1))), .inl ((7 : Int32)), .inr (.inr (r41))], hd ((0, 2, 0, 0, 0) :: L), 16, 108)) 1 rfl ?_
  refine T_let (Sf := fun L43 => (39, [(3, .inl ((7 : Int32))), (0, .inr (.inr (x0))), (1, .inr (.inr (x1))), (2, .inr (.inr (x2)))], [.inr (.inr (((hd L).1))), .inl ((7 : Int32)), .inr (.inr (r41))], hd L43, 16, 108)) (fun L43 => ?_)
  refine T_let (Sf := fun r42 => (39, [(3, .inl ((7 : Int32))), (0, .inr (.inr (x0))), (1, .inr (.inr (x1))), (2, .inr (.inr (x2)))], [.inr (.inr (r42)), .inl ((7 : Int32)), .inr (.inr (r41))], hd L43, 16, 108)) (fun r42 => ?_)
  refine T_go (S' := (40, [(3, .inl ((7 : Int32))), (0, .inr (.inr (x0))), (1, .inr (.inr (x1))), (2, .inr (.inr (x2)))], [.inr (.inr (r42)), .inr (.inr (r42)), .inl ((7 : Int32)), .inr (.inr (r41))], hd L43, 16, 108)) 1 rfl ?_
  refine TI_isp (as := [.inr (.inr (r42))]) (rest := [.inr (.inr (r42)), .inl ((7 : Int32)), .inr (.inr (r41))]) (st := [.inr (.inr (r42)), .inr (.inr (r42)), .inl ((7 : Int32)), .inr (.inr (r41))]) rfl rfl rfl ⟨lb rfl, lb rfl, lb rfl, lb rfl⟩ (fun _ h => Ew_le (lb rfl) (s_X2_init r42 L43 _ h)) (fun _ L44 => ?_)
  show Snd true none _ _ _ _ (43, [(3, .inl ((7 : Int32))), (0, .inr (.inr (x0))), (1, .inr (.inr (x1))), (2, .inr (.inr (x2)))], [.inr (.inr (r42)), .inl ((7 : Int32)), .inr (.inr (r41))], hd L44, 17, 112)
  refine TI_aast rfl (fun _ => ?_)
  refine T_let (Sf := fun L45 => (44, [(3, .inl ((7 : Int32))), (0, .inr (.inr (x0))), (1, .inr (.inr (x1))), (2, .inr (.inr (x2)))], [], hd L45, 17, 112)) (fun L45 => ?_)
  refine T_go (S' := (32, [(3, .inl ((8 : Int32))), (0, .inr (.inr (x0))), (1, .inr (.inr (x1))), (2, .inr (.inr (x2)))], [.inr (.inr (x0))], hd L45, 17, 112)) 6 rfl ?_
  refine TI_getR rfl (fun _ => ?_)
  refine T_let (Sf := fun r46 => (35, [(3, .inl ((8 : Int32))), (0, .inr (.inr (x0))), (1, .inr (.inr (x1))), (2, .inr (.inr (x2)))], [.inr (.inr (r46))], hd L45, 17, 112)) (fun r46 => ?_)
  refine T_go (S' := (36, [(3, .inl ((8 : Int32))), (0, .inr (.inr (x0))), (1, .inr (.inr (x1))), (2, .inr (.inr (x2)))], [.inl ((8 : Int32)), .inr (.inr (r46))], hd L45, 17, 112)) 1 rfl ?_
  refine T_go (S' := (39, [(3, .inl ((8 : Int32))), (0, .inr (.inr (x0))), (1, .inr (.inr (x1))), (2, .inr (.inr (x2)))], [.inr (.inr (((hd L45).1))), .inl ((8 : Int32)), .inr (.inr (r46))], hd ((0, 2, 0, 0, 0) :: L45), 18, 120)) 1 rfl ?_
  refine T_let (Sf := fun L48 => (39, [(3, .inl ((8 : Int32))), (0, .inr (.inr (x0))), (1, .inr (.inr (x1))), (2, .inr (.inr (x2)))], [.inr (.inr (((hd L45).1))), .inl ((8 : Int32)), .inr (.inr (r46))], hd L48, 18, 120)) (fun L48 => ?_)
  refine T_let (Sf := fun r47 => (39, [(3, .inl ((8 : Int32))), (0, .inr (.inr (x0))), (1, .inr (.inr (x1))), (2, .inr (.inr (x2)))], [.inr (.inr (r47)), .inl ((8 : Int32)), .inr (.inr (r46))], hd L48, 18, 120)) (fun r47 => ?_)
  refine T_go (S' := (40, [(3, .inl ((8 : Int32))), (0, .inr (.inr (x0))), (1, .inr (.inr (x1))), (2, .inr (.inr (x2)))], [.inr (.inr (r47)), .inr (.inr (r47)), .inl ((8 : Int32)), .inr (.inr (r46))], hd L48, 18, 120)) 1 rfl ?_
  refine TI_isp (as := [.inr (.inr (r47))]) (rest := [.inr (.inr (r47)), .inl ((8 : Int32)), .inr (.inr (r46))]) (st := [.inr (.inr (r47)), .inr (.inr (r47)), .inl ((8 : Int32)), .inr (.inr (r46))]) rfl rfl rfl ⟨lb rfl, lb rfl, lb rfl, lb rfl⟩ (fun _ h => Ew_le (lb rfl) (s_X2_init r47 L48 _ h)) (fun _ L49 => ?_)
  show Snd true none _ _ _ _ (43, [(3, .inl ((8 : Int32))), (0, .inr (.inr (x0))), (1, .inr (.inr (x1))), (2, .inr (.inr (x2)))], [.inr (.inr (r47)), .inl ((8 : Int32)), .inr (.inr (r46))], hd L49, 19, 124)
  refine TI_aast rfl (fun _ => ?_)
  refine T_let (Sf := fun L50 => (44, [(3, .inl ((8 : Int32))), (0, .inr (.inr (x0))), (1, .inr (.inr (x1))), (2, .inr (.inr (x2)))], [], hd L50, 19, 124)) (fun L50 => ?_)
  refine T_go (S' := (32, [(3, .inl ((9 : Int32))), (0, .inr (.inr (x0))), (1, .inr (.inr (x1))), (2, .inr (.inr (x2)))], [.inr (.inr (x0))], hd L50, 19, 124)) 6 rfl ?_
  refine TI_getR rfl (fun _ => ?_)
  refine T_let (Sf := fun r51 => (35, [(3, .inl ((9 : Int32))), (0, .inr (.inr (x0))), (1, .inr (.inr (x1))), (2, .inr (.inr (x2)))], [.inr (.inr (r51))], hd L50, 19, 124)) (fun r51 => ?_)
  refine T_go (S' := (36, [(3, .inl ((9 : Int32))), (0, .inr (.inr (x0))), (1, .inr (.inr (x1))), (2, .inr (.inr (x2)))], [.inl ((9 : Int32)), .inr (.inr (r51))], hd L50, 19, 124)) 1 rfl ?_
  refine T_go (S' := (39, [(3, .inl ((9 : Int32))), (0, .inr (.inr (x0))), (1, .inr (.inr (x1))), (2, .inr (.inr (x2)))], [.inr (.inr (((hd L50).1))), .inl ((9 : Int32)), .inr (.inr (r51))], hd ((0, 2, 0, 0, 0) :: L50), 20, 132)) 1 rfl ?_
  refine T_let (Sf := fun L53 => (39, [(3, .inl ((9 : Int32))), (0, .inr (.inr (x0))), (1, .inr (.inr (x1))), (2, .inr (.inr (x2)))], [.inr (.inr (((hd L50).1))), .inl ((9 : Int32)), .inr (.inr (r51))], hd L53, 20, 132)) (fun L53 => ?_)
  refine T_let (Sf := fun r52 => (39, [(3, .inl ((9 : Int32))), (0, .inr (.inr (x0))), (1, .inr (.inr (x1))), (2, .inr (.inr (x2)))], [.inr (.inr (r52)), .inl ((9 : Int32)), .inr (.inr (r51))], hd L53, 20, 132)) (fun r52 => ?_)
  refine T_go (S' := (40, [(3, .inl ((9 : Int32))), (0, .inr (.inr (x0))), (1, .inr (.inr (x1))), (2, .inr (.inr (x2)))], [.inr (.inr (r52)), .inr (.inr (r52)), .inl ((9 : Int32)), .inr (.inr (r51))], hd L53, 20, 132)) 1 rfl ?_
  refine TI_isp (as := [.inr (.inr (r52))]) (rest := [.inr (.inr (r52)), .inl ((9 : Int32)), .inr (.inr (r51))]) (st := [.inr (.inr (r52)), .inr (.inr (r52)), .inl ((9 : Int32)), .inr (.inr (r51))]) rfl rfl rfl ⟨lb rfl, lb rfl, lb rfl, lb rfl⟩ (fun _ h => Ew_le (lb rfl) (s_X2_init r52 L53 _ h)) (fun _ L54 => ?_)
  show Snd true none _ _ _ _ (43, [(3, .inl ((9 : Int32))), (0, .inr (.inr (x0))), (1, .inr (.inr (x1))), (2, .inr (.inr (x2)))], [.inr (.inr (r52)), .inl ((9 : Int32)), .inr (.inr (r51))], hd L54, 21, 136)
  refine TI_aast rfl (fun _ => ?_)
  refine T_let (Sf := fun L55 => (44, [(3, .inl ((9 : Int32))), (0, .inr (.inr (x0))), (1, .inr (.inr (x1))), (2, .inr (.inr (x2)))], [], hd L55, 21, 136)) (fun L55 => ?_)
  refine T_go (S' := (32, [(3, .inl ((10 : Int32))), (0, .inr (.inr (x0))), (1, .inr (.inr (x1))), (2, .inr (.inr (x2)))], [.inr (.inr (x0))], hd L55, 21, 136)) 6 rfl ?_
  refine TI_getR rfl (fun _ => ?_)
  refine T_let (Sf := fun r56 => (35, [(3, .inl ((10 : Int32))), (0, .inr (.inr (x0))), (1, .inr (.inr (x1))), (2, .inr (.inr (x2)))], [.inr (.inr (r56))], hd L55, 21, 136)) (fun r56 => ?_)
  refine T_go (S' := (36, [(3, .inl ((10 : Int32))), (0, .inr (.inr (x0))), (1, .inr (.inr (x1))), (2, .inr (.inr (x2)))], [.inl ((10 : Int32)), .inr (.inr (r56))], hd L55, 21, 136)) 1 rfl ?_
  refine T_go (S' := (39, [(3, .inl ((10 : Int32))), (0, .inr (.inr (x0))), (1, .inr (.inr (x1))), (2, .inr (.inr (x2)))], [.inr (.inr (((hd L55).1))), .inl ((10 : Int32)), .inr (.inr (r56))], hd ((0, 2, 0, 0, 0) :: L55), 22, 144)) 1 rfl ?_
  refine T_let (Sf := fun L58 => (39, [(3, .inl ((10 : Int32))), (0, .inr (.inr (x0))), (1, .inr (.inr (x1))), (2, .inr (.inr (x2)))], [.inr (.inr (((hd L55).1))), .inl ((10 : Int32)), .inr (.inr (r56))], hd L58, 22, 144)) (fun L58 => ?_)
  refine T_let (Sf := fun r57 => (39, [(3, .inl ((10 : Int32))), (0, .inr (.inr (x0))), (1, .inr (.inr (x1))), (2, .inr (.inr (x2)))], [.inr (.inr (r57)), .inl ((10 : Int32)), .inr (.inr (r56))], hd L58, 22, 144)) (fun r57 => ?_)
  refine T_go (S' := (40, [(3, .inl ((10 : Int32))), (0, .inr (.inr (x0))), (1, .inr (.inr (x1))), (2, .inr (.inr (x2)))], [.inr (.inr (r57)), .inr (.inr (r57)), .inl ((10 : Int32)), .inr (.inr (r56))], hd L58, 22, 144)) 1 rfl ?_
  refine TI_isp (as := [.inr (.inr (r57))]) (rest := [.inr (.inr (r57)), .inl ((10 : Int32)), .inr (.inr (r56))]) (st := [.inr (.inr (r57)), .inr (.inr (r57)), .inl ((10 : Int32)), .inr (.inr (r56))]) rfl rfl rfl ⟨lb rfl, lb rfl, lb rfl, lb rfl⟩ (fun _ h => Ew_le (lb rfl) (s_X2_init r57 L58 _ h)) (fun _ L59 => ?_)
  show Snd true none _ _ _ _ (43, [(3, .inl ((10 : Int32))), (0, .inr (.inr (x0))), (1, .inr (.inr (x1))), (2, .inr (.inr (x2)))], [.inr (.inr (r57)), .inl ((10 : Int32)), .inr (.inr (r56))], hd L59, 23, 148)
  refine TI_aast rfl (fun _ => ?_)
  refine T_let (Sf := fun L60 => (44, [(3, .inl ((10 : Int32))), (0, .inr (.inr (x0))), (1, .inr (.inr (x1))), (2, .inr (.inr (x2)))], [], hd L60, 23, 148)) (fun L60 => ?_)
  refine T_go (S' := (32, [(3, .inl ((11 : Int32))), (0, .inr (.inr (x0))), (1, .inr (.inr (x1))), (2, .inr (.inr (x2)))], [.inr (.inr (x0))], hd L60, 23, 148)) 6 rfl ?_
  refine TI_getR rfl (fun _ => ?_)
  refine T_let (Sf := fun r61 => (35, [(3, .inl ((11 : Int32))), (0, .inr (.inr (x0))), (1, .inr (.inr (x1))), (2, .inr (.inr (x2)))], [.inr (.inr (r61))], hd L60, 23, 148)) (fun r61 => ?_)
  refine T_go (S' := (36, [(3, .inl ((11 : Int32))), (0, .inr (.inr (x0))), (1, .inr (.inr (x1))), (2, .inr (.inr (x2)))], [.inl ((11 : Int32)), .inr (.inr (r61))], hd L60, 23, 148)) 1 rfl ?_
  refine T_go (S' := (39, [(3, .inl ((11 : Int32))), (0, .inr (.inr (x0))), (1, .inr (.inr (x1))), (2, .inr (.inr (x2)))], [.inr (.inr (((hd L60).1))), .inl ((11 : Int32)), .inr (.inr (r61))], hd ((0, 2, 0, 0, 0) :: L60), 24, 156)) 1 rfl ?_
  refine T_let (Sf := fun L63 => (39, [(3, .inl ((11 : Int32))), (0, .inr (.inr (x0))), (1, .inr (.inr (x1))), (2, .inr (.inr (x2)))], [.inr (.inr (((hd L60).1))), .inl ((11 : Int32)), .inr (.inr (r61))], hd L63, 24, 156)) (fun L63 => ?_)
  refine T_let (Sf := fun r62 => (39, [(3, .inl ((11 : Int32))), (0, .inr (.inr (x0))), (1, .inr (.inr (x1))), (2, .inr (.inr (x2)))], [.inr (.inr (r62)), .inl ((11 : Int32)), .inr (.inr (r61))], hd L63, 24, 156)) (fun r62 => ?_)
  refine T_go (S' := (40, [(3, .inl ((11 : Int32))), (0, .inr (.inr (x0))), (1, .inr (.inr (x1))), (2, .inr (.inr (x2)))], [.inr (.inr (r62)), .inr (.inr (r62)), .inl ((11 : Int32)), .inr (.inr (r61))], hd L63, 24, 156)) 1 rfl ?_
  refine TI_isp (as := [.inr (.inr (r62))]) (rest := [.inr (.inr (r62)), .inl ((11 : Int32)), .inr (.inr (r61))]) (st := [.inr (.inr (r62)), .inr (.inr (r62)), .inl ((11 : Int32)), .inr (.inr (r61))]) rfl rfl rfl ⟨lb rfl, lb rfl, lb rfl, lb rfl⟩ (fun _ h => Ew_le (lb rfl) (s_X2_init r62 L63 _ h)) (fun _ L64 => ?_)
  show Snd true none _ _ _ _ (43, [(3, .inl ((11 : Int32))), (0, .inr (.inr (x0))), (1, .inr (.inr (x1))), (2, .inr (.inr (x2)))], [.inr (.inr (r62)), .inl ((11 : Int32)), .inr (.inr (r61))], hd L64, 25, 160)
  refine TI_aast rfl (fun _ => ?_)
  refine T_let (Sf := fun L65 => (44, [(3, .inl ((11 : Int32))), (0, .inr (.inr (x0))), (1, .inr (.inr (x1))), (2, .inr (.inr (x2)))], [], hd L65, 25, 160)) (fun L65 => ?_)
  refine T_go (S' := (32, [(3, .inl ((12 : Int32))), (0, .inr (.inr (x0))), (1, .inr (.inr (x1))), (2, .inr (.inr (x2)))], [.inr (.inr (x0))], hd L65, 25, 160)) 6 rfl ?_
  refine TI_getR rfl (fun _ => ?_)
  refine T_let (Sf := fun r66 => (35, [(3, .inl ((12 : Int32))), (0, .inr (.inr (x0))), (1, .inr (.inr (x1))), (2, .inr (.inr (x2)))], [.inr (.inr (r66))], hd L65, 25, 160)) (fun r66 => ?_)
  refine T_go (S' := (36, [(3, .inl ((12 : Int32))), (0, .inr (.inr (x0))), (1, .inr (.inr (x1))), (2, .inr (.inr (x2)))], [.inl ((12 : Int32)), .inr (.inr (r66))], hd L65, 25, 160)) 1 rfl ?_
  refine T_go (S' := (39, [(3, .inl ((12 : Int32))), (0, .inr (.inr (x0))), (1, .inr (.inr (x1))), (2, .inr (.inr (x2)))], [.inr (.inr (((hd L65).1))), .inl ((12 : Int32)), .inr (.inr (r66))], hd ((0, 2, 0, 0, 0) :: L65), 26, 168)) 1 rfl ?_
  refine T_let (Sf := fun L68 => (39, [(3, .inl ((12 : Int32))), (0, .inr (.inr (x0))), (1, .inr (.inr (x1))), (2, .inr (.inr (x2)))], [.inr (.inr (((hd L65).1))), .inl ((12 : Int32)), .inr (.inr (r66))], hd L68, 26, 168)) (fun L68 => ?_)
  refine T_let (Sf := fun r67 => (39, [(3, .inl ((12 : Int32))), (0, .inr (.inr (x0))), (1, .inr (.inr (x1))), (2, .inr (.inr (x2)))], [.inr (.inr (r67)), .inl ((12 : Int32)), .inr (.inr (r66))], hd L68, 26, 168)) (fun r67 => ?_)
  refine T_go (S' := (40, [(3, .inl ((12 : Int32))), (0, .inr (.inr (x0))), (1, .inr (.inr (x1))), (2, .inr (.inr (x2)))], [.inr (.inr (r67)), .inr (.inr (r67)), .inl ((12 : Int32)), .inr (.inr (r66))], hd L68, 26, 168)) 1 rfl ?_
  refine TI_isp (as := [.inr (.inr (r67))]) (rest := [.inr (.inr (r67)), .inl ((12 : Int32)), .inr (.inr (r66))]) (st := [.inr (.inr (r67)), .inr (.inr (r67)), .inl ((12 : Int32)), .inr (.inr (r66))]) rfl rfl rfl ⟨lb rfl, lb rfl, lb rfl, lb rfl⟩ (fun _ h => Ew_le (lb rfl) (s_X2_init r67 L68 _ h)) (fun _ L69 => ?_)
  show Snd true none _ _ _ _ (43, [(3, .inl ((12 : Int32))), (0, .inr (.inr (x0))), (1, .inr (.inr (x1))), (2, .inr (.inr (x2)))], [.inr (.inr (r67)), .inl ((12 : Int32)), .inr (.inr (r66))], hd L69, 27, 172)
  refine TI_aast rfl (fun _ => ?_)
  refine T_let (Sf := fun L70 => (44, [(3, .inl ((12 : Int32))), (0, .inr (.inr (x0))), (1, .inr (.inr (x1))), (2, .inr (.inr (x2)))], [], hd L70, 27, 172)) (fun L70 => ?_)
  refine T_go (S' := (32, [(3, .inl ((13 : Int32))), (0, .inr (.inr (x0))), (1, .inr (.inr (x1))), (2, .inr (.inr (x2)))], [.inr (.inr (x0))], hd L70, 27, 172)) 6 rfl ?_
  refine TI_getR rfl (fun _ => ?_)
  refine T_let (Sf := fun r71 => (35, [(3, .inl ((13 : Int32))), (0, .inr (.inr (x0))), (1, .inr (.inr (x1))), (2, .inr (.inr (x2)))], [.inr (.inr (r71))], hd L70, 27, 172)) (fun r71 => ?_)
  refine T_go (S' := (36, [(3, .inl ((13 : Int32))), (0, .inr (.inr (x0))), (1, .inr (.inr (x1))), (2, .inr (.inr (x2)))], [.inl ((13 : Int32)), .inr (.inr (r71))], hd L70, 27, 172)) 1 rfl ?_
  refine T_go (S' := (39, [(3, .inl ((13 : Int32))), (0, .inr (.inr (x0))), (1, .inr (.inr (x1))), (2, .inr (.inr (x2)))], [.inr (.inr (((hd L70).1))), .inl ((13 : Int32)), .inr (.inr (r71))], hd ((0, 2, 0, 0, 0) :: L70), 28, 180)) 1 rfl ?_
  refine T_let (Sf := fun L73 => (39, [(3, .inl ((13 : Int32))), (0, .inr (.inr (x0))), (1, .inr (.inr (x1))), (2, .inr (.inr (x2)))], [.inr (.inr (((hd L70).1))), .inl ((13 : Int32)), .inr (.inr (r71))], hd L73, 28, 180)) (fun L73 => ?_)
  refine T_let (Sf := fun r72 => (39, [(3, .inl ((13 : Int32))), (0, .inr (.inr (x0))), (1, .inr (.inr (x1))), (2, .inr (.inr (x2)))], [.inr (.inr (r72)), .inl ((13 : Int32)), .inr (.inr (r71))], hd L73, 28, 180)) (fun r72 => ?_)
  refine T_go (S' := (40, [(3, .inl ((13 : Int32))), (0, .inr (.inr (x0))), (1, .inr (.inr (x1))), (2, .inr (.inr (x2)))], [.inr (.inr (r72)), .inr (.inr (r72)), .inl ((13 : Int32)), .inr (.inr (r71))], hd L73, 28, 180)) 1 rfl ?_
  refine TI_isp (as := [.inr (.inr (r72))]) (rest := [.inr (.inr (r72)), .inl ((13 : Int32)), .inr (.inr (r71))]) (st := [.inr (.inr (r72)), .inr (.inr (r72)), .inl ((13 : Int32)), .inr (.inr (r71))]) rfl rfl rfl ⟨lb rfl, lb rfl, lb rfl, lb rfl⟩ (fun _ h => Ew_le (lb rfl) (s_X2_init r72 L73 _ h)) (fun _ L74 => ?_)
  show Snd true none _ _ _ _ (43, [(3, .inl ((13 : Int32))), (0, .inr (.inr (x0))), (1, .inr (.inr (x1))), (2, .inr (.inr (x2)))], [.inr (.inr (r72)), .inl ((13 : Int32)), .inr (.inr (r71))], hd L74, 29, 184)
  refine TI_aast rfl (fun _ => ?_)
  refine T_let (Sf := fun L75 => (44, [(3, .inl ((13 : Int32))), (0, .inr (.inr (x0))), (1, .inr (.inr (x1))), (2, .inr (.inr (x2)))], [], hd L75, 29, 184)) (fun L75 => ?_)
  refine T_go (S' := (32, [(3, .inl ((14 : Int32))), (0, .inr (.inr (x0))), (1, .inr (.inr (x1))), (2, .inr (.inr (x2)))], [.inr (.inr (x0))], hd L75, 29, 184)) 6 rfl ?_
  refine TI_getR rfl (fun _ => ?_)
  refine T_let (Sf := fun r76 => (35, [(3, .inl ((14 : Int32))), (0, .inr (.inr (x0))), (1, .inr (.inr (x1))), (2, .inr (.inr (x2)))], [.inr (.inr (r76))], hd L75, 29, 184)) (fun r76 => ?_)
  refine T_go (S' := (36, [(3, .inl ((14 : Int32))), (0, .inr (.inr (x0))), (1, .inr (.inr (x1))), (2, .inr (.inr (x2)))], [.inl ((14 : Int32)), .inr (.inr (r76))], hd L75, 29, 184)) 1 rfl ?_
  refine T_go (S' := (39, [(3, .inl ((14 : Int32))), (0, .inr (.inr (x0))), (1, .inr (.inr (x1))), (2, .inr (.inr (x2)))], [.inr (.inr (((hd L75).1))), .inl ((14 : Int32)), .inr (.inr (r76))], hd ((0, 2, 0, 0, 0) :: L75), 30, 192)) 1 rfl ?_
  refine T_let (Sf := fun L78 => (39, [(3, .inl ((14 : Int32))), (0, .inr (.inr (x0))), (1, .inr (.inr (x1))), (2, .inr (.inr (x2)))], [.inr (.inr (((hd L75).1))), .inl ((14 : Int32)), .inr (.inr (r76))], hd L78, 30, 192)) (fun L78 => ?_)
  refine T_let (Sf := fun r77 => (39, [(3, .inl ((14 : Int32))), (0, .inr (.inr (x0))), (1, .inr (.inr (x1))), (2, .inr (.inr (x2)))], [.inr (.inr (r77)), .inl ((14 : Int32)), .inr (.inr (r76))], hd L78, 30, 192)) (fun r77 => ?_)
  refine T_go (S' := (40, [(3, .inl ((14 : Int32))), (0, .inr (.inr (x0))), (1, .inr (.inr (x1))), (2, .inr (.inr (x2)))], [.inr (.inr (r77)), .inr (.inr (r77)), .inl ((14 : Int32)), .inr (.inr (r76))], hd L78, 30, 192)) 1 rfl ?_
  refine TI_isp (as := [.inr (.inr (r77))]) (rest := [.inr (.inr (r77)), .inl ((14 : Int32)), .inr (.inr (r76))]) (st := [.inr (.inr (r77)), .inr (.inr (r77)), .inl ((14 : Int32)), .inr (.inr (r76))]) rfl rfl rfl ⟨lb rfl, lb rfl, lb rfl, lb rfl⟩ (fun _ h => Ew_le (lb rfl) (s_X2_init r77 L78 _ h)) (fun _ L79 => ?_)
  show Snd true none _ _ _ _ (43, [(3, .inl ((14 : Int32))), (0, .inr (.inr (x0))), (1, .inr (.inr (x1))), (2, .inr (.inr (x2)))], [.inr (.inr (r77)), .inl ((14 : Int32)), .inr (.inr (r76))], hd L79, 31, 196)
  refine TI_aast rfl (fun _ => ?_)
  refine T_let (Sf := fun L80 => (44, [(3, .inl ((14 : Int32))), (0, .inr (.inr (x0))), (1, .inr (.inr (x1))), (2, .inr (.inr (x2)))], [], hd L80, 31, 196)) (fun L80 => ?_)
  exact s_X1_init_c2 x0 x1 x2 L80
set_option maxRecDepth 20000 in
def f_X1_init (x0 : Nat) (x1 : Nat) (x2 : Nat) (L : List eOp) : Option (List eOp) :=
  if 2 ≤ x0 ∧ ecats [] ≤ 8 then
  eLet ((2, 15, 16, 0, 0) :: L) fun L2 =>
  eLet ((hd L).1) fun r1 =>
  if ((hd L2).2.1 x0).1 = 1 then
  eLet ((5, x0, 0, r1, 0) :: L2) fun L3 =>
  if ((hd L3).2.1 x0).1 = 1 then
  eLet ((5, x0, 1, x1, 0) :: L3) fun L4 =>
  if ((hd L4).2.1 x0).1 = 1 then
  eLet ((5, x0, 2, x2, 0) :: L4) fun L5 =>
  if ((hd L5).2.1 x0).1 = 1 then
  eLet ((hd L5).2.2.2.1 x0 0) fun r6 =>
  eLet ((0, 2, 0, 0, 0) :: L5) fun L8 =>
  eLet ((hd L5).1) fun r7 =>
  if ((hd L8).2.1 r7).1 = 2 then
  Option.bind (f_X2_init r7 L8) fun L9 =>
  if ((hd L9).2.1 r6).1 = 15 ∧ eix (0 : Int32) ((hd L9).2.1 r6).2 = true ∧ ((hd L9).2.1 r7).1 = 2 then
  eLet ((5, r6, 0, r7, 0) :: L9) fun L10 =>
  if ((hd L10).2.1 x0).1 = 1 then
  eLet ((hd L10).2.2.2.1 x0 0) fun r11 =>
  eLet ((0, 2, 0, 0, 0) :: L10) fun L13 =>
  eLet ((hd L10).1) fun r12 =>
  if ((hd L13).2.1 r12).1 = 2 then
  Option.bind (f_X2_init r12 L13) fun L14 =>
  if ((hd L14).2.1 r11).1 = 15 ∧ eix (1 : Int32) ((hd L14).2.1 r11).2 = true ∧ ((hd L14).2.1 r12).1 = 2 then
  eLet ((5, r11, 1, r12, 0) :: L14) fun L15 =>
  if ((hd L15).2.1 x0).1 = 1 then
  eLet ((hd L15).2.2.2.1 x0 0) fun r16 =>
  eLet ((0, 2, 0, 0, 0) :: L15) fun L18 =>
  eLet ((hd L15).1) fun r17 =>
  if ((hd L18).2.1 r17).1 = 2 then
  Option.bind (f_X2_init r17 L18) fun L19 =>
  if ((hd L19).2.1 r16).1 = 15 ∧ eix (2 : Int32) ((hd L19).2.1 r16).2 = true ∧ ((hd L19).2.1 r17).1 = 2 then
  eLet ((5, r16, 2, r17, 0) :: L19) fun L20 =>
  if ((hd L20).2.1 x0).1 = 1 then
  eLet ((hd L20).2.2.2.1 x0 0) fun r21 =>
  eLet ((0, 2, 0, 0, 0) :: L20) fun L23 =>
  eLet ((hd L20).1) fun r22 =>
  if ((hd L23).2.1 r22).1 = 2 then
  Option.bind (f_X2_init r22 L23) fun L24 =>
  if ((hd L24).2.1 r21).1 = 15 ∧ eix (3 : Int32) ((hd L24).2.1 r21).2 = true ∧ ((hd L24).2.1 r22).1 = 2 then
  eLet ((5, r21, 3, r22, 0) :: L24) fun L25 =>
  if ((hd L25).2.1 x0).1 = 1 then
  eLet ((hd L25).2.2.2.1 x0 0) fun r26 =>
  eLet ((0, 2, 0, 0, 0) :: L25) fun L28 =>
  eLet ((hd L25).1) fun r27 =>
  if ((hd L28).2.1 r27).1 = 2 then
  Option.bind (f_X2_init r27 L28) fun L29 =>
  if ((hd L29).2.1 r26).1 = 15 ∧ eix (4 : Int32) ((hd L29).2.1 r26).2 = true ∧ ((hd L29).2.1 r27).1 = 2 then
  eLet ((5, r26, 4, r27, 0) :: L29) fun L30 =>
  if ((hd L30).2.1 x0).1 = 1 then
  eLet ((hd L30).2.2.2.1 x0 0) fun r31 =>
  eLet ((0, 2, 0, 0, 0) :: L30) fun L33 =>
  eLet ((hd L30).1) fun r32 =>
  if ((hd L33).2.1 r32).1 = 2 then
  Option.bind (f_X2_init r32 L33) fun L34 =>
  if ((hd L34).2.1 r31).1 = 15 ∧ eix (5 : Int32) ((hd L34).2.1 r31).2 = true ∧ ((hd L34).2.1 r32).1 = 2 then
  eLet ((5, r31, 5, r32, 0) :: L34) fun L35 =>
  if ((hd L35).2.1 x0).1 = 1 then
  eLet ((hd L35).2.2.2.1 x0 0) fun r36 =>
  eLet ((0, 2, 0, 0, 0) :: L35) fun L38 =>
  eLet ((hd L35).1) fun r37 =>
  if ((hd L38).2.1 r37).1 = 2 then
  Option.bind (f_X2_init r37 L38) fun L39 =>
  if ((hd L39).2.1 r36).1 = 15 ∧ eix (6 : Int32) ((hd L39).2.1 r36).2 = true ∧ ((hd L39).2.1 r37).1 = 2 then
  eLet ((5, r36, 6, r37, 0) :: L39) fun L40 =>
  f_X1_init_c1 x0 x1 x2 L40
  else none
  else none
  else none
  else none
  else none
  else none
  else none
  else none
  else none
  else none
  else none
  else none
  else none
  else none
  else none
  else none
  else none
  else none
  else none
  else none
  else none
  else none
  else none
  else none
  else none
set_option maxHeartbeats 4000000 in
set_option maxRecDepth 20000 in
theorem s_X1_init (x0 : Nat) (x1 : Nat) (x2 : Nat) (L : List eOp) : ∀ L2, f_X1_init x0 x1 x2 L = some L2 → Ew true 2 23 [.inr (.inr (x0)), .inr (.inr (x1)), .inr (.inr (x2))] (hd L) (cI L2) := by
  refine T_meth (md := m_X1_init) (d0 := 1) (cv := cI) rfl (lb rfl) (lb rfl) ?_
  unfold f_X1_init
  show Snd true none _ _ _ _ (0, [(0, .inr (.inr (x0))), (1, .inr (.inr (x1))), (2, .inr (.inr (x2)))], [], hd L, 0, 0)
  refine T_go (S' := (1, [(0, .inr (.inr (x0))), (1, .inr (.inr (x1))), (2, .inr (.inr (x2)))], [.inr (.inr (x0))], hd L, 0, 0)) 1 rfl ?_
  refine TI_obj rfl (fun _ => ?_)
  show Snd true none _ _ _ _ (4, [(0, .inr (.inr (x0))), (1, .inr (.inr (x1))), (2, .inr (.inr (x2)))], [], hd L, 0, 0)
  refine T_go (S' := (7, [(0, .inr (.inr (x0))), (1, .inr (.inr (x1))), (2, .inr (.inr (x2)))], [.inl ((16 : Int32)), .inr (.inr (x0))], hd L, 0, 0)) 2 rfl ?_
  refine T_go (S' := (10, [(0, .inr (.inr (x0))), (1, .inr (.inr (x1))), (2, .inr (.inr (x2)))], [.inr (.inr (((hd L).1))), .inr (.inr (x0))], hd ((2, 15, 16, 0, 0) :: L), 1, 16)) 1 rfl ?_
  refine T_let (Sf := fun L2 => (10, [(0, .inr (.inr (x0))), (1, .inr (.inr (x1))), (2, .inr (.inr (x2)))], [.inr (.inr (((hd L).1))), .inr (.inr (x0))], hd L2, 1, 16)) (fun L2 => ?_)
  refine T_let (Sf := fun r1 => (10, [(0, .inr (.inr (x0))), (1, .inr (.inr (x1))), (2, .inr (.inr (x2)))], [.inr (.inr (r1)), .inr (.inr (x0))], hd L2, 1, 16)) (fun r1 => ?_)
  refine TI_putR rfl (fun _ => ?_)
  refine T_let (Sf := fun L3 => (13, [(0, .inr (.inr (x0))), (1, .inr (.inr (x1))), (2, .inr (.inr (x2)))], [], hd L3, 1, 16)) (fun L3 => ?_)
  refine T_go (S' := (15, [(0, .inr (.inr (x0))), (1, .inr (.inr (x1))), (2, .inr (.inr (x2)))], [.inr (.inr (x1)), .inr (.inr (x0))], hd L3, 1, 16)) 2 rfl ?_
  refine TI_putR rfl (fun _ => ?_)
  refine T_let (Sf := fun L4 => (18, [(0, .inr (.inr (x0))), (1, .inr (.inr (x1))), (2, .inr (.inr (x2)))], [], hd L4, 1, 16)) (fun L4 => ?_)
  refine T_go (S' := (20, [(0, .inr (.inr (x0))), (1, .inr (.inr (x1))), (2, .inr (.inr (x2)))], [.inr (.inr (x2)), .inr (.inr (x0))], hd L4, 1, 16)) 2 rfl ?_
  refine TI_putR rfl (fun _ => ?_)
  refine T_let (Sf := fun L5 => (23, [(0, .inr (.inr (x0))), (1, .inr (.inr (x1))), (2, .inr (.inr (x2)))], [], hd L5, 1, 16)) (fun L5 => ?_)
  refine T_go (S' := (32, [(3, .inl ((0 : Int32))), (0, .inr (.inr (x0))), (1, .inr (.inr (x1))), (2, .inr (.inr (x2)))], [.inr (.inr (x0))], hd L5, 1, 16)) 6 rfl ?_
  refine TI_getR rfl (fun _ => ?_)
  refine T_let (Sf := fun r6 => (35, [(3, .inl ((0 : Int32))), (0, .inr (.inr (x0))), (1, .inr (.inr (x1))), (2, .inr (.inr (x2)))], [.inr (.inr (r6))], hd L5, 1, 16)) (fun r6 => ?_)
  refine T_go (S' := (36, [(3, .inl ((0 : Int32))), (0, .inr (.inr (x0))), (1, .inr (.inr (x1))), (2, .inr (.inr (x2)))], [.inl ((0 : Int32)), .inr (.inr (r6))], hd L5, 1, 16)) 1 rfl ?_
  refine T_go (S' := (39, [(3, .inl ((0 : Int32))), (0, .inr (.inr (x0))), (1, .inr (.inr (x1))), (2, .inr (.inr (x2)))], [.inr (.inr (((hd L5).1))), .inl ((0 : Int32)), .inr (.inr (r6))], hd ((0, 2, 0, 0, 0) :: L5), 2, 24)) 1 rfl ?_
  refine T_let (Sf := fun L8 => (39, [(3, .inl ((0 : Int32))), (0, .inr (.inr (x0))), (1, .inr (.inr (x1))), (2, .inr (.inr (x2)))], [.inr (.inr (((hd L5).1))), .inl ((0 : Int32)), .inr (.inr (r6))], hd L8, 2, 24)) (fun L8 => ?_)
  refine T_let (Sf := fun r7 => (39, [(3, .inl ((0 : Int32))), (0, .inr (.inr (x0))), (1, .inr (.inr (x1))), (2, .inr (.inr (x2)))], [.inr (.inr (r7)), .inl ((0 : Int32)), .inr (.inr (r6))], hd L8, 2, 24)) (fun r7 => ?_)
  refine T_go (S' := (40, [(3, .inl ((0 : Int32))), (0, .inr (.inr (x0))), (1, .inr (.inr (x1))), (2, .inr (.inr (x2)))], [.inr (.inr (r7)), .inr (.inr (r7)), .inl ((0 : Int32)), .inr (.inr (r6))], hd L8, 2, 24)) 1 rfl ?_
  refine TI_isp (as := [.inr (.inr (r7))]) (rest := [.inr (.inr (r7)), .inl ((0 : Int32)), .inr (.inr (r6))]) (st := [.inr (.inr (r7)), .inr (.inr (r7)), .inl ((0 : Int32)), .inr (.inr (r6))]) rfl rfl rfl ⟨lb rfl, lb rfl, lb rfl, lb rfl⟩ (fun _ h => Ew_le (lb rfl) (s_X2_init r7 L8 _ h)) (fun _ L9 => ?_)
  show Snd true none _ _ _ _ (43, [(3, .inl ((0 : Int32))), (0, .inr (.inr (x0))), (1, .inr (.inr (x1))), (2, .inr (.inr (x2)))], [.inr (.inr (r7)), .inl ((0 : Int32)), .inr (.inr (r6))], hd L9, 3, 28)
  refine TI_aast rfl (fun _ => ?_)
  refine T_let (Sf := fun L10 => (44, [(3, .inl ((0 : Int32))), (0, .inr (.inr (x0))), (1, .inr (.inr (x1))), (2, .inr (.inr (x2)))], [], hd L10, 3, 28)) (fun L10 => ?_)
  refine T_go (S' := (32, [(3, .inl ((1 : Int32))), (0, .inr (.inr (x0))), (1, .inr (.inr (x1))), (2, .inr (.inr (x2)))], [.inr (.inr (x0))], hd L10, 3, 28)) 6 rfl ?_
  refine TI_getR rfl (fun _ => ?_)
  refine T_let (Sf := fun r11 => (35, [(3, .inl ((1 : Int32))), (0, .inr (.inr (x0))), (1, .inr (.inr (x1))), (2, .inr (.inr (x2)))], [.inr (.inr (r11))], hd L10, 3, 28)) (fun r11 => ?_)
  refine T_go (S' := (36, [(3, .inl ((1 : Int32))), (0, .inr (.inr (x0))), (1, .inr (.inr (x1))), (2, .inr (.inr (x2)))], [.inl ((1 : Int32)), .inr (.inr (r11))], hd L10, 3, 28)) 1 rfl ?_
  refine T_go (S' := (39, [(3, .inl ((1 : Int32))), (0, .inr (.inr (x0))), (1, .inr (.inr (x1))), (2, .inr (.inr (x2)))], [.inr (.inr (((hd L10).1))), .inl ((1 : Int32)), .inr (.inr (r11))], hd ((0, 2, 0, 0, 0) :: L10), 4, 36)) 1 rfl ?_
  refine T_let (Sf := fun L13 => (39, [(3, .inl ((1 : Int32))), (0, .inr (.inr (x0))), (1, .inr (.inr (x1))), (2, .inr (.inr (x2)))], [.inr (.inr (((hd L10).1))), .inl ((1 : Int32)), .inr (.inr (r11))], hd L13, 4, 36)) (fun L13 => ?_)
  refine T_let (Sf := fun r12 => (39, [(3, .inl ((1 : Int32))), (0, .inr (.inr (x0))), (1, .inr (.inr (x1))), (2, .inr (.inr (x2)))], [.inr (.inr (r12)), .inl ((1 : Int32)), .inr (.inr (r11))], hd L13, 4, 36)) (fun r12 => ?_)
  refine T_go (S' := (40, [(3, .inl ((1 : Int32))), (0, .inr (.inr (x0))), (1, .inr (.inr (x1))), (2, .inr (.inr (x2)))], [.inr (.inr (r12)), .inr (.inr (r12)), .inl ((1 : Int32)), .inr (.inr (r11))], hd L13, 4, 36)) 1 rfl ?_
  refine TI_isp (as := [.inr (.inr (r12))]) (rest := [.inr (.inr (r12)), .inl ((1 : Int32)), .inr (.inr (r11))]) (st := [.inr (.inr (r12)), .inr (.inr (r12)), .inl ((1 : Int32)), .inr (.inr (r11))]) rfl rfl rfl ⟨lb rfl, lb rfl, lb rfl, lb rfl⟩ (fun _ h => Ew_le (lb rfl) (s_X2_init r12 L13 _ h)) (fun _ L14 => ?_)
  show Snd true none _ _ _ _ (43, [(3, .inl ((1 : Int32))), (0, .inr (.inr (x0))), (1, .inr (.inr (x1))), (2, .inr (.inr (x2)))], [.inr (.inr (r12)), .inl ((1 : Int32)), .inr (.inr (r11))], hd L14, 5, 40)
  refine TI_aast rfl (fun _ => ?_)
  refine T_let (Sf := fun L15 => (44, [(3, .inl ((1 : Int32))), (0, .inr (.inr (x0))), (1, .inr (.inr (x1))), (2, .inr (.inr (x2)))], [], hd L15, 5, 40)) (fun L15 => ?_)
  refine T_go (S' := (32, [(3, .inl ((2 : Int32))), (0, .inr (.inr (x0))), (1, .inr (.inr (x1))), (2, .inr (.inr (x2)))], [.inr (.inr (x0))], hd L15, 5, 40)) 6 rfl ?_
  refine TI_getR rfl (fun _ => ?_)
  refine T_let (Sf := fun r16 => (35, [(3, .inl ((2 : Int32))), (0, .inr (.inr (x0))), (1, .inr (.inr (x1))), (2, .inr (.inr (x2)))], [.inr (.inr (r16))], hd L15, 5, 40)) (fun r16 => ?_)
  refine T_go (S' := (36, [(3, .inl ((2 : Int32))), (0, .inr (.inr (x0))), (1, .inr (.inr (x1))), (2, .inr (.inr (x2)))], [.inl ((2 : Int32)), .inr (.inr (r16))], hd L15, 5, 40)) 1 rfl ?_
  refine T_go (S' := (39, [(3, .inl ((2 : Int32))), (0, .inr (.inr (x0))), (1, .inr (.inr (x1))), (2, .inr (.inr (x2)))], [.inr (.inr (((hd L15).1))), .inl ((2 : Int32)), .inr (.inr (r16))], hd ((0, 2, 0, 0, 0) :: L15), 6, 48)) 1 rfl ?_
  refine T_let (Sf := fun L18 => (39, [(3, .inl ((2 : Int32))), (0, .inr (.inr (x0))), (1, .inr (.inr (x1))), (2, .inr (.inr (x2)))], [.inr (.inr (((hd L15).1))), .inl ((2 : Int32)), .inr (.inr (r16))], hd L18, 6, 48)) (fun L18 => ?_)
  refine T_let (Sf := fun r17 => (39, [(3, .inl ((2 : Int32))), (0, .inr (.inr (x0))), (1, .inr (.inr (x1))), (2, .inr (.inr (x2)))], [.inr (.inr (r17)), .inl ((2 : Int32)), .inr (.inr (r16))], hd L18, 6, 48)) (fun r17 => ?_)
  refine T_go (S' := (40, [(3, .inl ((2 : Int32))), (0, .inr (.inr (x0))), (1, .inr (.inr (x1))), (2, .inr (.inr (x2)))], [.inr (.inr (r17)), .inr (.inr (r17)), .inl ((2 : Int32)), .inr (.inr (r16))], hd L18, 6, 48)) 1 rfl ?_
  refine TI_isp (as := [.inr (.inr (r17))]) (rest := [.inr (.inr (r17)), .inl ((2 : Int32)), .inr (.inr (r16))]) (st := [.inr (.inr (r17)), .inr (.inr (r17)), .inl ((2 : Int32)), .inr (.inr (r16))]) rfl rfl rfl ⟨lb rfl, lb rfl, lb rfl, lb rfl⟩ (fun _ h => Ew_le (lb rfl) (s_X2_init r17 L18 _ h)) (fun _ L19 => ?_)
  show Snd true none _ _ _ _ (43, [(3, .inl ((2 : Int32))), (0, .inr (.inr (x0))), (1, .inr (.inr (x1))), (2, .inr (.inr (x2)))], [.inr (.inr (r17)), .inl ((2 : Int32)), .inr (.inr (r16))], hd L19, 7, 52)
  refine TI_aast rfl (fun _ => ?_)
  refine T_let (Sf := fun L20 => (44, [(3, .inl ((2 : Int32))), (0, .inr (.inr (x0))), (1, .inr (.inr (x1))), (2, .inr (.inr (x2)))], [], hd L20, 7, 52)) (fun L20 => ?_)
  refine T_go (S' := (32, [(3, .inl ((3 : Int32))), (0, .inr (.inr (x0))), (1, .inr (.inr (x1))), (2, .inr (.inr (x2)))], [.inr (.inr (x0))], hd L20, 7, 52)) 6 rfl ?_
  refine TI_getR rfl (fun _ => ?_)
  refine T_let (Sf := fun r21 => (35, [(3, .inl ((3 : Int32))), (0, .inr (.inr (x0))), (1, .inr (.inr (x1))), (2, .inr (.inr (x2)))], [.inr (.inr (r21))], hd L20, 7, 52)) (fun r21 => ?_)
  refine T_go (S' := (36, [(3, .inl ((3 : Int32))), (0, .inr (.inr (x0))), (1, .inr (.inr (x1))), (2, .inr (.inr (x2)))], [.inl ((3 : Int32)), .inr (.inr (r21))], hd L20, 7, 52)) 1 rfl ?_
  refine T_go (S' := (39, [(3, .inl ((3 : Int32))), (0, .inr (.inr (x0))), (1, .inr (.inr (x1))), (2, .inr (.inr (x2)))], [.inr (.inr (((hd L20).1))), .inl ((3 : Int32)), .inr (.inr (r21))], hd ((0, 2, 0, 0, 0) :: L20), 8, 60)) 1 rfl ?_
  refine T_let (Sf := fun L23 => (39, [(3, .inl ((3 : Int32))), (0, .inr (.inr (x0))), (1, .inr (.inr (x1))), (2, .inr (.inr (x2)))], [.inr (.inr (((hd L20).1))), .inl ((3 : Int32)), .inr (.inr (r21))], hd L23, 8, 60)) (fun L23 => ?_)
  refine T_let (Sf := fun r22 => (39, [(3, .inl ((3 : Int32))), (0, .inr (.inr (x0))), (1, .inr (.inr (x1))), (2, .inr (.inr (x2)))], [.inr (.inr (r22)), .inl ((3 : Int32)), .inr (.inr (r21))], hd L23, 8, 60)) (fun r22 => ?_)
  refine T_go (S' := (40, [(3, .inl ((3 : Int32))), (0, .inr (.inr (x0))), (1, .inr (.inr (x1))), (2, .inr (.inr (x2)))], [.inr (.inr (r22)), .inr (.inr (r22)), .inl ((3 : Int32)), .inr (.inr (r21))], hd L23, 8, 60)) 1 rfl ?_
  refine TI_isp (as := [.inr (.inr (r22))]) (rest := [.inr (.inr (r22)), .inl ((3 : Int32)), .inr (.inr (r21))]) (st := [.inr (.inr (r22)), .inr (.inr (r22)), .inl ((3 : Int32)), .inr (.inr (r21))]) rfl rfl rfl ⟨lb rfl, lb rfl, lb rfl, lb rfl⟩ (fun _ h => Ew_le (lb rfl) (s_X2_init r22 L23 _ h)) (fun _ L24 => ?_)
  show Snd true none _ _ _ _ (43, [(3, .inl ((3 : Int32))), (0, .inr (.inr (x0))), (1, .inr (.inr (x1))), (2, .inr (.inr (x2)))], [.inr (.inr (r22)), .inl ((3 : Int32)), .inr (.inr (r21))], hd L24, 9, 64)
  refine TI_aast rfl (fun _ => ?_)
  refine T_let (Sf := fun L25 => (44, [(3, .inl ((3 : Int32))), (0, .inr (.inr (x0))), (1, .inr (.inr (x1))), (2, .inr (.inr (x2)))], [], hd L25, 9, 64)) (fun L25 => ?_)
  refine T_go (S' := (32, [(3, .inl ((4 : Int32))), (0, .inr (.inr (x0))), (1, .inr (.inr (x1))), (2, .inr (.inr (x2)))], [.inr (.inr (x0))], hd L25, 9, 64)) 6 rfl ?_
  refine TI_getR rfl (fun _ => ?_)
  refine T_let (Sf := fun r26 => (35, [(3, .inl ((4 : Int32))), (0, .inr (.inr (x0))), (1, .inr (.inr (x1))), (2, .inr (.inr (x2)))], [.inr (.inr (r26))], hd L25, 9, 64)) (fun r26 => ?_)
  refine T_go (S' := (36, [(3, .inl ((4 : Int32))), (0, .inr (.inr (x0))), (1, .inr (.inr (x1))), (2, .inr (.inr (x2)))], [.inl ((4 : Int32)), .inr (.inr (r26))], hd L25, 9, 64)) 1 rfl ?_
  refine T_go (S' := (39, [(3, .inl ((4 : Int32))), (0, .inr (.inr (x0))), (1, .inr (.inr (x1))), (2, .inr (.inr (x2)))], [.inr (.inr (((hd L25).1))), .inl ((4 : Int32)), .inr (.inr (r26))], hd ((0, 2, 0, 0, 0) :: L25), 10, 72)) 1 rfl ?_
  refine T_let (Sf := fun L28 => (39, [(3, .inl ((4 : Int32))), (0, .inr (.inr (x0))), (1, .inr (.inr (x1))), (2, .inr (.inr (x2)))], [.inr (.inr (((hd L25).1))), .inl ((4 : Int32)), .inr (.inr (r26))], hd L28, 10, 72)) (fun L28 => ?_)
  refine T_let (Sf := fun r27 => (39, [(3, .inl ((4 : Int32))), (0, .inr (.inr (x0))), (1, .inr (.inr (x1))), (2, .inr (.inr (x2)))], [.inr (.inr (r27)), .inl ((4 : Int32)), .inr (.inr (r26))], hd L28, 10, 72)) (fun r27 => ?_)
  refine T_go (S' := (40, [(3, .inl ((4 : Int32))), (0, .inr (.inr (x0))), (1, .inr (.inr (x1))), (2, .inr (.inr (x2)))], [.inr (.inr (r27)), .inr (.inr (r27)), .inl ((4 : Int32)), .inr (.inr (r26))], hd L28, 10, 72)) 1 rfl ?_
  refine TI_isp (as := [.inr (.inr (r27))]) (rest := [.inr (.inr (r27)), .inl ((4 : Int32)), .inr (.inr (r26))]) (st := [.inr (.inr (r27)), .inr (.inr (r27)), .inl ((4 : Int32)), .inr (.inr (r26))]) rfl rfl rfl ⟨lb rfl, lb rfl, lb rfl, lb rfl⟩ (fun _ h => Ew_le (lb rfl) (s_X2_init r27 L28 _ h)) (fun _ L29 => ?_)
  show Snd true none _ _ _ _ (43, [(3, .inl ((4 : Int32))), (0, .inr (.inr (x0))), (1, .inr (.inr (x1))), (2, .inr (.inr (x2)))], [.inr (.inr (r27)), .inl ((4 : Int32)), .inr (.inr (r26))], hd L29, 11, 76)
  refine TI_aast rfl (fun _ => ?_)
  refine T_let (Sf := fun L30 => (44, [(3, .inl ((4 : Int32))), (0, .inr (.inr (x0))), (1, .inr (.inr (x1))), (2, .inr (.inr (x2)))], [], hd L30, 11, 76)) (fun L30 => ?_)
  refine T_go (S' := (32, [(3, .inl ((5 : Int32))), (0, .inr (.inr (x0))), (1, .inr (.inr (x1))), (2, .inr (.inr (x2)))], [.inr (.inr (x0))], hd L30, 11, 76)) 6 rfl ?_
  refine TI_getR rfl (fun _ => ?_)
  refine T_let (Sf := fun r31 => (35, [(3, .inl ((5 : Int32))), (0, .inr (.inr (x0))), (1, .inr (.inr (x1))), (2, .inr (.inr (x2)))], [.inr (.inr (r31))], hd L30, 11, 76)) (fun r31 => ?_)
  refine T_go (S' := (36, [(3, .inl ((5 : Int32))), (0, .inr (.inr (x0))), (1, .inr (.inr (x1))), (2, .inr (.inr (x2)))], [.inl ((5 : Int32)), .inr (.inr (r31))], hd L30, 11, 76)) 1 rfl ?_
  refine T_go (S' := (39, [(3, .inl ((5 : Int32))), (0, .inr (.inr (x0))), (1, .inr (.inr (x1))), (2, .inr (.inr (x2)))], [.inr (.inr (((hd L30).1))), .inl ((5 : Int32)), .inr (.inr (r31))], hd ((0, 2, 0, 0, 0) :: L30), 12, 84)) 1 rfl ?_
  refine T_let (Sf := fun L33 => (39, [(3, .inl ((5 : Int32))), (0, .inr (.inr (x0))), (1, .inr (.inr (x1))), (2, .inr (.inr (x2)))], [.inr (.inr (((hd L30).1))), .inl ((5 : Int32)), .inr (.inr (r31))], hd L33, 12, 84)) (fun L33 => ?_)
  refine T_let (Sf := fun r32 => (39, [(3, .inl ((5 : Int32))), (0, .inr (.inr (x0))), (1, .inr (.inr (x1))), (2, .inr (.inr (x2)))], [.inr (.inr (r32)), .inl ((5 : Int32)), .inr (.inr (r31))], hd L33, 12, 84)) (fun r32 => ?_)
  refine T_go (S' := (40, [(3, .inl ((5 : Int32))), (0, .inr (.inr (x0))), (1, .inr (.inr (x1))), (2, .inr (.inr (x2)))], [.inr (.inr (r32)), .inr (.inr (r32)), .inl ((5 : Int32)), .inr (.inr (r31))], hd L33, 12, 84)) 1 rfl ?_
  refine TI_isp (as := [.inr (.inr (r32))]) (rest := [.inr (.inr (r32)), .inl ((5 : Int32)), .inr (.inr (r31))]) (st := [.inr (.inr (r32)), .inr (.inr (r32)), .inl ((5 : Int32)), .inr (.inr (r31))]) rfl rfl rfl ⟨lb rfl, lb rfl, lb rfl, lb rfl⟩ (fun _ h => Ew_le (lb rfl) (s_X2_init r32 L33 _ h)) (fun _ L34 => ?_)
  show Snd true none _ _ _ _ (43, [(3, .inl ((5 : Int32))), (0, .inr (.inr (x0))), (1, .inr (.inr (x1))), (2, .inr (.inr (x2)))], [.inr (.inr (r32)), .inl ((5 : Int32)), .inr (.inr (r31))], hd L34, 13, 88)
  refine TI_aast rfl (fun _ => ?_)
  refine T_let (Sf := fun L35 => (44, [(3, .inl ((5 : Int32))), (0, .inr (.inr (x0))), (1, .inr (.inr (x1))), (2, .inr (.inr (x2)))], [], hd L35, 13, 88)) (fun L35 => ?_)
  refine T_go (S' := (32, [(3, .inl ((6 : Int32))), (0, .inr (.inr (x0))), (1, .inr (.inr (x1))), (2, .inr (.inr (x2)))], [.inr (.inr (x0))], hd L35, 13, 88)) 6 rfl ?_
  refine TI_getR rfl (fun _ => ?_)
  refine T_let (Sf := fun r36 => (35, [(3, .inl ((6 : Int32))), (0, .inr (.inr (x0))), (1, .inr (.inr (x1))), (2, .inr (.inr (x2)))], [.inr (.inr (r36))], hd L35, 13, 88)) (fun r36 => ?_)
  refine T_go (S' := (36, [(3, .inl ((6 : Int32))), (0, .inr (.inr (x0))), (1, .inr (.inr (x1))), (2, .inr (.inr (x2)))], [.inl ((6 : Int32)), .inr (.inr (r36))], hd L35, 13, 88)) 1 rfl ?_
  refine T_go (S' := (39, [(3, .inl ((6 : Int32))), (0, .inr (.inr (x0))), (1, .inr (.inr (x1))), (2, .inr (.inr (x2)))], [.inr (.inr (((hd L35).1))), .inl ((6 : Int32)), .inr (.inr (r36))], hd ((0, 2, 0, 0, 0) :: L35), 14, 96)) 1 rfl ?_
  refine T_let (Sf := fun L38 => (39, [(3, .inl ((6 : Int32))), (0, .inr (.inr (x0))), (1, .inr (.inr (x1))), (2, .inr (.inr (x2)))], [.inr (.inr (((hd L35).1))), .inl ((6 : Int32)), .inr (.inr (r36))], hd L38, 14, 96)) (fun L38 => ?_)
  refine T_let (Sf := fun r37 => (39, [(3, .inl ((6 : Int32))), (0, .inr (.inr (x0))), (1, .inr (.inr (x1))), (2, .inr (.inr (x2)))], [.inr (.inr (r37)), .inl ((6 : Int32)), .inr (.inr (r36))], hd L38, 14, 96)) (fun r37 => ?_)
  refine T_go (S' := (40, [(3, .inl ((6 : Int32))), (0, .inr (.inr (x0))), (1, .inr (.inr (x1))), (2, .inr (.inr (x2)))], [.inr (.inr (r37)), .inr (.inr (r37)), .inl ((6 : Int32)), .inr (.inr (r36))], hd L38, 14, 96)) 1 rfl ?_
  refine TI_isp (as := [.inr (.inr (r37))]) (rest := [.inr (.inr (r37)), .inl ((6 : Int32)), .inr (.inr (r36))]) (st := [.inr (.inr (r37)), .inr (.inr (r37)), .inl ((6 : Int32)), .inr (.inr (r36))]) rfl rfl rfl ⟨lb rfl, lb rfl, lb rfl, lb rfl⟩ (fun _ h => Ew_le (lb rfl) (s_X2_init r37 L38 _ h)) (fun _ L39 => ?_)
  show Snd true none _ _ _ _ (43, [(3, .inl ((6 : Int32))), (0, .inr (.inr (x0))), (1, .inr (.inr (x1))), (2, .inr (.inr (x2)))], [.inr (.inr (r37)), .inl ((6 : Int32)), .inr (.inr (r36))], hd L39, 15, 100)
  refine TI_aast rfl (fun _ => ?_)
  refine T_let (Sf := fun L40 => (44, [(3, .inl ((6 : Int32))), (0, .inr (.inr (x0))), (1, .inr (.inr (x1))), (2, .inr (.inr (x2)))], [], hd L40, 15, 100)) (fun L40 => ?_)
  exact s_X1_init_c1 x0 x1 x2 L40
set_option maxRecDepth 20000 in
def f_X3_init (x0 : Nat) (L : List eOp) : Option (List eOp) :=
  if 2 ≤ x0 ∧ ecats [] ≤ 8 then
  eLet ((3, 15, 64, 0, 0) :: L) fun L2 =>
  eLet ((hd L).1) fun r1 =>
  if ((hd L2).2.1 x0).1 = 3 then
  eLet ((5, x0, 0, r1, 0) :: L2) fun L3 =>
  eLet ((1, 11, 15, 0, 0) :: L3) fun L5 =>
  eLet ((hd L3).1) fun r4 =>
  if ((hd L5).2.1 x0).1 = 3 then
  eLet ((5, x0, 1, r4, 0) :: L5) fun L6 =>
  eLet ((1, 11, 15, 0, 0) :: L6) fun L8 =>
  eLet ((hd L6).1) fun r7 =>
  if ((hd L8).2.1 x0).1 = 3 then
  eLet ((5, x0, 2, r7, 0) :: L8) fun L9 =>
  some L9
  else none
  else none
  else none
  else none
set_option maxHeartbeats 4000000 in
set_option maxRecDepth 20000 in
theorem s_X3_init (x0 : Nat) (L : List eOp) : ∀ L2, f_X3_init x0 L = some L2 → Ew true 1 41 [.inr (.inr (x0))] (hd L) (cI L2) := by
  refine T_meth (md := m_X3_init) (d0 := 0) (cv := cI) rfl (lb rfl) (lb rfl) ?_
  unfold f_X3_init
  show Snd true none _ _ _ _ (0, [(0, .inr (.inr (x0)))], [], hd L, 0, 0)
  refine T_go (S' := (1, [(0, .inr (.inr (x0)))], [.inr (.inr (x0))], hd L, 0, 0)) 1 rfl ?_
  refine TI_obj rfl (fun _ => ?_)
  show Snd true none _ _ _ _ (4, [(0, .inr (.inr (x0)))], [], hd L, 0, 0)
  refine T_go (S' := (9, [(0, .inr (.inr (x0)))], [.inl ((64 : Int32)), .inl ((15 : Int32)), .inr (.inr (x0))], hd L, 0, 0)) 3 rfl ?_
  refine T_go (S' := (13, [(0, .inr (.inr (x0)))], [.inr (.inr (((hd L).1))), .inr (.inr (x0))], hd ((3, 15, 64, 0, 0) :: L), 16, 975)) 1 rfl ?_
  refine T_let (Sf := fun L2 => (13, [(0, .inr (.inr (x0)))], [.inr (.inr (((hd L).1))), .inr (.inr (x0))], hd L2, 16, 975)) (fun L2 => ?_)
  refine T_let (Sf := fun r1 => (13, [(0, .inr (.inr (x0)))], [.inr (.inr (r1)), .inr (.inr (x0))], hd L2, 16, 975)) (fun r1 => ?_)
  refine TI_putR rfl (fun _ => ?_)
  refine T_let (Sf := fun L3 => (16, [(0, .inr (.inr (x0)))], [], hd L3, 16, 975)) (fun L3 => ?_)
  refine T_go (S' := (19, [(0, .inr (.inr (x0)))], [.inl ((15 : Int32)), .inr (.inr (x0))], hd L3, 16, 975)) 2 rfl ?_
  refine T_go (S' := (21, [(0, .inr (.inr (x0)))], [.inr (.inr (((hd L3).1))), .inr (.inr (x0))], hd ((1, 11, 15, 0, 0) :: L3), 17, 990)) 1 rfl ?_
  refine T_let (Sf := fun L5 => (21, [(0, .inr (.inr (x0)))], [.inr (.inr (((hd L3).1))), .inr (.inr (x0))], hd L5, 17, 990)) (fun L5 => ?_)
  refine T_let (Sf := fun r4 => (21, [(0, .inr (.inr (x0)))], [.inr (.inr (r4)), .inr (.inr (x0))], hd L5, 17, 990)) (fun r4 => ?_)
  refine TI_putR rfl (fun _ => ?_)
  refine T_let (Sf := fun L6 => (24, [(0, .inr (.inr (x0)))], [], hd L6, 17, 990)) (fun L6 => ?_)
  refine T_go (S' := (27, [(0, .inr (.inr (x0)))], [.inl ((15 : Int32)), .inr (.inr (x0))], hd L6, 17, 990)) 2 rfl ?_
  refine T_go (S' := (29, [(0, .inr (.inr (x0)))], [.inr (.inr (((hd L6).1))), .inr (.inr (x0))], hd ((1, 11, 15, 0, 0) :: L6), 18, 1005)) 1 rfl ?_
  refine T_let (Sf := fun L8 => (29, [(0, .inr (.inr (x0)))], [.inr (.inr (((hd L6).1))), .inr (.inr (x0))], hd L8, 18, 1005)) (fun L8 => ?_)
  refine T_let (Sf := fun r7 => (29, [(0, .inr (.inr (x0)))], [.inr (.inr (r7)), .inr (.inr (x0))], hd L8, 18, 1005)) (fun r7 => ?_)
  refine TI_putR rfl (fun _ => ?_)
  refine T_let (Sf := fun L9 => (32, [(0, .inr (.inr (x0)))], [], hd L9, 18, 1005)) (fun L9 => ?_)
  exact T_ret rfl
set_option maxRecDepth 20000 in
def f_X6_init (x0 : Nat) (L : List eOp) : Option (List eOp) :=
  if 2 ≤ x0 ∧ ecats [] ≤ 8 then
  eLet ((1, 11, 720, 0, 0) :: L) fun L2 =>
  eLet ((hd L).1) fun r1 =>
  if ((hd L2).2.1 x0).1 = 5 then
  eLet ((5, x0, 0, r1, 0) :: L2) fun L3 =>
  if ((hd L3).2.1 x0).1 = 5 then
  eLet ((4, x0, 1, 0, (0 : Int32)) :: L3) fun L4 =>
  if ((hd L4).2.1 x0).1 = 5 ∧ eB (0 : Int32) = true then
  eLet ((4, x0, 2, 0, (0 : Int32)) :: L4) fun L5 =>
  some L5
  else none
  else none
  else none
  else none
set_option maxHeartbeats 4000000 in
set_option maxRecDepth 20000 in
theorem s_X6_init (x0 : Nat) (L : List eOp) : ∀ L2, f_X6_init x0 L = some L2 → Ew true 1 60 [.inr (.inr (x0))] (hd L) (cI L2) := by
  refine T_meth (md := m_X6_init) (d0 := 0) (cv := cI) rfl (lb rfl) (lb rfl) ?_
  unfold f_X6_init
  show Snd true none _ _ _ _ (0, [(0, .inr (.inr (x0)))], [], hd L, 0, 0)
  refine T_go (S' := (1, [(0, .inr (.inr (x0)))], [.inr (.inr (x0))], hd L, 0, 0)) 1 rfl ?_
  refine TI_obj rfl (fun _ => ?_)
  show Snd true none _ _ _ _ (4, [(0, .inr (.inr (x0)))], [], hd L, 0, 0)
  refine T_go (S' := (8, [(0, .inr (.inr (x0)))], [.inl ((720 : Int32)), .inr (.inr (x0))], hd L, 0, 0)) 2 rfl ?_
  refine T_go (S' := (10, [(0, .inr (.inr (x0)))], [.inr (.inr (((hd L).1))), .inr (.inr (x0))], hd ((1, 11, 720, 0, 0) :: L), 1, 720)) 1 rfl ?_
  refine T_let (Sf := fun L2 => (10, [(0, .inr (.inr (x0)))], [.inr (.inr (((hd L).1))), .inr (.inr (x0))], hd L2, 1, 720)) (fun L2 => ?_)
  refine T_let (Sf := fun r1 => (10, [(0, .inr (.inr (x0)))], [.inr (.inr (r1)), .inr (.inr (x0))], hd L2, 1, 720)) (fun r1 => ?_)
  refine TI_putR rfl (fun _ => ?_)
  refine T_let (Sf := fun L3 => (13, [(0, .inr (.inr (x0)))], [], hd L3, 1, 720)) (fun L3 => ?_)
  refine T_go (S' := (15, [(0, .inr (.inr (x0)))], [.inl ((0 : Int32)), .inr (.inr (x0))], hd L3, 1, 720)) 2 rfl ?_
  refine TI_putI rfl (fun _ => ?_)
  refine T_let (Sf := fun L4 => (18, [(0, .inr (.inr (x0)))], [], hd L4, 1, 720)) (fun L4 => ?_)
  refine T_go (S' := (20, [(0, .inr (.inr (x0)))], [.inl ((0 : Int32)), .inr (.inr (x0))], hd L4, 1, 720)) 2 rfl ?_
  refine TI_putZ rfl (fun _ => ?_)
  refine T_let (Sf := fun L5 => (23, [(0, .inr (.inr (x0)))], [], hd L5, 1, 720)) (fun L5 => ?_)
  exact T_ret rfl
set_option maxRecDepth 20000 in
def f_X5_init (x0 : Nat) (L : List eOp) : Option (List eOp) :=
  if 2 ≤ x0 ∧ ecats [] ≤ 8 then
  eLet ((1, 11, 6, 0, 0) :: L) fun L2 =>
  eLet ((hd L).1) fun r1 =>
  if ((hd L2).2.1 x0).1 = 4 then
  eLet ((5, x0, 0, r1, 0) :: L2) fun L3 =>
  eLet ((1, 13, 12, 0, 0) :: L3) fun L5 =>
  eLet ((hd L3).1) fun r4 =>
  if ((hd L5).2.1 x0).1 = 4 then
  eLet ((5, x0, 1, r4, 0) :: L5) fun L6 =>
  eLet ((1, 11, 3, 0, 0) :: L6) fun L8 =>
  eLet ((hd L6).1) fun r7 =>
  if ((hd L8).2.1 x0).1 = 4 then
  eLet ((5, x0, 2, r7, 0) :: L8) fun L9 =>
  eLet ((0, 5, 0, 0, 0) :: L9) fun L11 =>
  eLet ((hd L9).1) fun r10 =>
  if ((hd L11).2.1 r10).1 = 5 then
  Option.bind (f_X6_init r10 L11) fun L12 =>
  if ((hd L12).2.1 x0).1 = 4 then
  eLet ((5, x0, 3, r10, 0) :: L12) fun L13 =>
  some L13
  else none
  else none
  else none
  else none
  else none
  else none
set_option maxHeartbeats 4000000 in
set_option maxRecDepth 20000 in
theorem s_X5_init (x0 : Nat) (L : List eOp) : ∀ L2, f_X5_init x0 L = some L2 → Ew true 2 51 [.inr (.inr (x0))] (hd L) (cI L2) := by
  refine T_meth (md := m_X5_init) (d0 := 1) (cv := cI) rfl (lb rfl) (lb rfl) ?_
  unfold f_X5_init
  show Snd true none _ _ _ _ (0, [(0, .inr (.inr (x0)))], [], hd L, 0, 0)
  refine T_go (S' := (1, [(0, .inr (.inr (x0)))], [.inr (.inr (x0))], hd L, 0, 0)) 1 rfl ?_
  refine TI_obj rfl (fun _ => ?_)
  show Snd true none _ _ _ _ (4, [(0, .inr (.inr (x0)))], [], hd L, 0, 0)
  refine T_go (S' := (7, [(0, .inr (.inr (x0)))], [.inl ((6 : Int32)), .inr (.inr (x0))], hd L, 0, 0)) 2 rfl ?_
  refine T_go (S' := (9, [(0, .inr (.inr (x0)))], [.inr (.inr (((hd L).1))), .inr (.inr (x0))], hd ((1, 11, 6, 0, 0) :: L), 1, 6)) 1 rfl ?_
  refine T_let (Sf := fun L2 => (9, [(0, .inr (.inr (x0)))], [.inr (.inr (((hd L).1))), .inr (.inr (x0))], hd L2, 1, 6)) (fun L2 => ?_)
  refine T_let (Sf := fun r1 => (9, [(0, .inr (.inr (x0)))], [.inr (.inr (r1)), .inr (.inr (x0))], hd L2, 1, 6)) (fun r1 => ?_)
  refine TI_putR rfl (fun _ => ?_)
  refine T_let (Sf := fun L3 => (12, [(0, .inr (.inr (x0)))], [], hd L3, 1, 6)) (fun L3 => ?_)
  refine T_go (S' := (15, [(0, .inr (.inr (x0)))], [.inl ((12 : Int32)), .inr (.inr (x0))], hd L3, 1, 6)) 2 rfl ?_
  refine T_go (S' := (17, [(0, .inr (.inr (x0)))], [.inr (.inr (((hd L3).1))), .inr (.inr (x0))], hd ((1, 13, 12, 0, 0) :: L3), 2, 18)) 1 rfl ?_
  refine T_let (Sf := fun L5 => (17, [(0, .inr (.inr (x0)))], [.inr (.inr (((hd L3).1))), .inr (.inr (x0))], hd L5, 2, 18)) (fun L5 => ?_)
  refine T_let (Sf := fun r4 => (17, [(0, .inr (.inr (x0)))], [.inr (.inr (r4)), .inr (.inr (x0))], hd L5, 2, 18)) (fun r4 => ?_)
  refine TI_putR rfl (fun _ => ?_)
  refine T_let (Sf := fun L6 => (20, [(0, .inr (.inr (x0)))], [], hd L6, 2, 18)) (fun L6 => ?_)
  refine T_go (S' := (22, [(0, .inr (.inr (x0)))], [.inl ((3 : Int32)), .inr (.inr (x0))], hd L6, 2, 18)) 2 rfl ?_
  refine T_go (S' := (24, [(0, .inr (.inr (x0)))], [.inr (.inr (((hd L6).1))), .inr (.inr (x0))], hd ((1, 11, 3, 0, 0) :: L6), 3, 21)) 1 rfl ?_
  refine T_let (Sf := fun L8 => (24, [(0, .inr (.inr (x0)))], [.inr (.inr (((hd L6).1))), .inr (.inr (x0))], hd L8, 3, 21)) (fun L8 => ?_)
  refine T_let (Sf := fun r7 => (24, [(0, .inr (.inr (x0)))], [.inr (.inr (r7)), .inr (.inr (x0))], hd L8, 3, 21)) (fun r7 => ?_)
  refine TI_putR rfl (fun _ => ?_)
  refine T_let (Sf := fun L9 => (27, [(0, .inr (.inr (x0)))], [], hd L9, 3, 21)) (fun L9 => ?_)
  refine T_go (S' := (28, [(0, .inr (.inr (x0)))], [.inr (.inr (x0))], hd L9, 3, 21)) 1 rfl ?_
  refine T_go (S' := (31, [(0, .inr (.inr (x0)))], [.inr (.inr (((hd L9).1))), .inr (.inr (x0))], hd ((0, 5, 0, 0, 0) :: L9), 4, 24)) 1 rfl ?_
  refine T_let (Sf := fun L11 => (31, [(0, .inr (.inr (x0)))], [.inr (.inr (((hd L9).1))), .inr (.inr (x0))], hd L11, 4, 24)) (fun L11 => ?_)
  refine T_let (Sf := fun r10 => (31, [(0, .inr (.inr (x0)))], [.inr (.inr (r10)), .inr (.inr (x0))], hd L11, 4, 24)) (fun r10 => ?_)
  refine T_go (S' := (32, [(0, .inr (.inr (x0)))], [.inr (.inr (r10)), .inr (.inr (r10)), .inr (.inr (x0))], hd L11, 4, 24)) 1 rfl ?_
  refine TI_isp (as := [.inr (.inr (r10))]) (rest := [.inr (.inr (r10)), .inr (.inr (x0))]) (st := [.inr (.inr (r10)), .inr (.inr (r10)), .inr (.inr (x0))]) rfl rfl rfl ⟨lb rfl, lb rfl, lb rfl, lb rfl⟩ (fun _ h => Ew_le (lb rfl) (s_X6_init r10 L11 _ h)) (fun _ L12 => ?_)
  show Snd true none _ _ _ _ (35, [(0, .inr (.inr (x0)))], [.inr (.inr (r10)), .inr (.inr (x0))], hd L12, 5, 744)
  refine TI_putR rfl (fun _ => ?_)
  refine T_let (Sf := fun L13 => (38, [(0, .inr (.inr (x0)))], [], hd L13, 5, 744)) (fun L13 => ?_)
  exact T_ret rfl
set_option maxRecDepth 20000 in
def f_X8_init (x0 : Nat) (L : List eOp) : Option (List eOp) :=
  if 2 ≤ x0 ∧ ecats [] ≤ 8 then
  eLet ((1, 11, 12, 0, 0) :: L) fun L2 =>
  eLet ((hd L).1) fun r1 =>
  if ((hd L2).2.1 x0).1 = 7 then
  eLet ((5, x0, 0, r1, 0) :: L2) fun L3 =>
  eLet ((1, 11, 12, 0, 0) :: L3) fun L5 =>
  eLet ((hd L3).1) fun r4 =>
  if ((hd L5).2.1 x0).1 = 7 then
  eLet ((5, x0, 1, r4, 0) :: L5) fun L6 =>
  eLet ((1, 11, 12, 0, 0) :: L6) fun L8 =>
  eLet ((hd L6).1) fun r7 =>
  if ((hd L8).2.1 x0).1 = 7 then
  eLet ((5, x0, 2, r7, 0) :: L8) fun L9 =>
  eLet ((1, 11, 12, 0, 0) :: L9) fun L11 =>
  eLet ((hd L9).1) fun r10 =>
  if ((hd L11).2.1 x0).1 = 7 then
  eLet ((5, x0, 3, r10, 0) :: L11) fun L12 =>
  eLet ((1, 11, 3, 0, 0) :: L12) fun L14 =>
  eLet ((hd L12).1) fun r13 =>
  if ((hd L14).2.1 x0).1 = 7 then
  eLet ((5, x0, 4, r13, 0) :: L14) fun L15 =>
  some L15
  else none
  else none
  else none
  else none
  else none
  else none
set_option maxHeartbeats 4000000 in
set_option maxRecDepth 20000 in
theorem s_X8_init (x0 : Nat) (L : List eOp) : ∀ L2, f_X8_init x0 L = some L2 → Ew true 1 72 [.inr (.inr (x0))] (hd L) (cI L2) := by
  refine T_meth (md := m_X8_init) (d0 := 0) (cv := cI) rfl (lb rfl) (lb rfl) ?_
  unfold f_X8_init
  show Snd true none _ _ _ _ (0, [(0, .inr (.inr (x0)))], [], hd L, 0, 0)
  refine T_go (S' := (1, [(0, .inr (.inr (x0)))], [.inr (.inr (x0))], hd L, 0, 0)) 1 rfl ?_
  refine TI_obj rfl (fun _ => ?_)
  show Snd true none _ _ _ _ (4, [(0, .inr (.inr (x0)))], [], hd L, 0, 0)
  refine T_go (S' := (7, [(0, .inr (.inr (x0)))], [.inl ((12 : Int32)), .inr (.inr (x0))], hd L, 0, 0)) 2 rfl ?_
  refine T_go (S' := (9, [(0, .inr (.inr (x0)))], [.inr (.inr (((hd L).1))), .inr (.inr (x0))], hd ((1, 11, 12, 0, 0) :: L), 1, 12)) 1 rfl ?_
  refine T_let (Sf := fun L2 => (9, [(0, .inr (.inr (x0)))], [.inr (.inr (((hd L).1))), .inr (.inr (x0))], hd L2, 1, 12)) (fun L2 => ?_)
  refine T_let (Sf := fun r1 => (9, [(0, .inr (.inr (x0)))], [.inr (.inr (r1)), .inr (.inr (x0))], hd L2, 1, 12)) (fun r1 => ?_)
  refine TI_putR rfl (fun _ => ?_)
  refine T_let (Sf := fun L3 => (12, [(0, .inr (.inr (x0)))], [], hd L3, 1, 12)) (fun L3 => ?_)
  refine T_go (S' := (15, [(0, .inr (.inr (x0)))], [.inl ((12 : Int32)), .inr (.inr (x0))], hd L3, 1, 12)) 2 rfl ?_
  refine T_go (S' := (17, [(0, .inr (.inr (x0)))], [.inr (.inr (((hd L3).1))), .inr (.inr (x0))], hd ((1, 11, 12, 0, 0) :: L3), 2, 24)) 1 rfl ?_
  refine T_let (Sf := fun L5 => (17, [(0, .inr (.inr (x0)))], [.inr (.inr (((hd L3).1))), .inr (.inr (x0))], hd L5, 2, 24)) (fun L5 => ?_)
  refine T_let (Sf := fun r4 => (17, [(0, .inr (.inr (x0)))], [.inr (.inr (r4)), .inr (.inr (x0))], hd L5, 2, 24)) (fun r4 => ?_)
  refine TI_putR rfl (fun _ => ?_)
  refine T_let (Sf := fun L6 => (20, [(0, .inr (.inr (x0)))], [], hd L6, 2, 24)) (fun L6 => ?_)
  refine T_go (S' := (23, [(0, .inr (.inr (x0)))], [.inl ((12 : Int32)), .inr (.inr (x0))], hd L6, 2, 24)) 2 rfl ?_
  refine T_go (S' := (25, [(0, .inr (.inr (x0)))], [.inr (.inr (((hd L6).1))), .inr (.inr (x0))], hd ((1, 11, 12, 0, 0) :: L6), 3, 36)) 1 rfl ?_
  refine T_let (Sf := fun L8 => (25, [(0, .inr (.inr (x0)))], [.inr (.inr (((hd L6).1))), .inr (.inr (x0))], hd L8, 3, 36)) (fun L8 => ?_)
  refine T_let (Sf := fun r7 => (25, [(0, .inr (.inr (x0)))], [.inr (.inr (r7)), .inr (.inr (x0))], hd L8, 3, 36)) (fun r7 => ?_)
  refine TI_putR rfl (fun _ => ?_)
  refine T_let (Sf := fun L9 => (28, [(0, .inr (.inr (x0)))], [], hd L9, 3, 36)) (fun L9 => ?_)
  refine T_go (S' := (31, [(0, .inr (.inr (x0)))], [.inl ((12 : Int32)), .inr (.inr (x0))], hd L9, 3, 36)) 2 rfl ?_
  refine T_go (S' := (33, [(0, .inr (.inr (x0)))], [.inr (.inr (((hd L9).1))), .inr (.inr (x0))], hd ((1, 11, 12, 0, 0) :: L9), 4, 48)) 1 rfl ?_
  refine T_let (Sf := fun L11 => (33, [(0, .inr (.inr (x0)))], [.inr (.inr (((hd L9).1))), .inr (.inr (x0))], hd L11, 4, 48)) (fun L11 => ?_)
  refine T_let (Sf := fun r10 => (33, [(0, .inr (.inr (x0)))], [.inr (.inr (r10)), .inr (.inr (x0))], hd L11, 4, 48)) (fun r10 => ?_)
  refine TI_putR rfl (fun _ => ?_)
  refine T_let (Sf := fun L12 => (36, [(0, .inr (.inr (x0)))], [], hd L12, 4, 48)) (fun L12 => ?_)
  refine T_go (S' := (38, [(0, .inr (.inr (x0)))], [.inl ((3 : Int32)), .inr (.inr (x0))], hd L12, 4, 48)) 2 rfl ?_
  refine T_go (S' := (40, [(0, .inr (.inr (x0)))], [.inr (.inr (((hd L12).1))), .inr (.inr (x0))], hd ((1, 11, 3, 0, 0) :: L12), 5, 51)) 1 rfl ?_
  refine T_let (Sf := fun L14 => (40, [(0, .inr (.inr (x0)))], [.inr (.inr (((hd L12).1))), .inr (.inr (x0))], hd L14, 5, 51)) (fun L14 => ?_)
  refine T_let (Sf := fun r13 => (40, [(0, .inr (.inr (x0)))], [.inr (.inr (r13)), .inr (.inr (x0))], hd L14, 5, 51)) (fun r13 => ?_)
  refine TI_putR rfl (fun _ => ?_)
  refine T_let (Sf := fun L15 => (43, [(0, .inr (.inr (x0)))], [], hd L15, 5, 51)) (fun L15 => ?_)
  exact T_ret rfl
set_option maxRecDepth 20000 in
def f_X11_init_c1 (x0 : Nat) (L : List eOp) : Option (List eOp) :=
  if ((hd L).2.1 x0).1 = 9 then
  eLet ((hd L).2.2.2.1 x0 3) fun r40 =>
  eLet ((0, 0, 0, 0, 0) :: L) fun L42 =>
  eLet ((hd L).1) fun r41 =>
  if ((hd L42).2.1 x0).1 = 9 then
  eLet ((hd L42).2.2.2.1 x0 1) fun r43 =>
  if ((hd L42).2.1 x0).1 = 9 then
  eLet ((hd L42).2.2.2.1 x0 0) fun r44 =>
  if ((hd L42).2.1 r41).1 = 0 then
  Option.bind (f_X0_init r41 (1 : Int32) r43 r44 L42) fun L45 =>
  if ((hd L45).2.1 r40).1 = 14 ∧ eix (1 : Int32) ((hd L45).2.1 r40).2 = true ∧ ((hd L45).2.1 r41).1 = 0 then
  eLet ((5, r40, 1, r41, 0) :: L45) fun L46 =>
  if ((hd L46).2.1 x0).1 = 9 then
  eLet ((hd L46).2.2.2.1 x0 3) fun r47 =>
  eLet ((0, 0, 0, 0, 0) :: L46) fun L49 =>
  eLet ((hd L46).1) fun r48 =>
  if ((hd L49).2.1 x0).1 = 9 then
  eLet ((hd L49).2.2.2.1 x0 1) fun r50 =>
  if ((hd L49).2.1 x0).1 = 9 then
  eLet ((hd L49).2.2.2.1 x0 0) fun r51 =>
  if ((hd L49).2.1 r48).1 = 0 then
  Option.bind (f_X0_init r48 (2 : Int32) r50 r51 L49) fun L52 =>
  if ((hd L52).2.1 r47).1 = 14 ∧ eix (2 : Int32) ((hd L52).2.1 r47).2 = true ∧ ((hd L52).2.1 r48).1 = 0 then
  eLet ((5, r47, 2, r48, 0) :: L52) fun L53 =>
  if ((hd L53).2.1 x0).1 = 9 then
  eLet ((hd L53).2.2.2.1 x0 3) fun r54 =>
  eLet ((0, 0, 0, 0, 0) :: L53) fun L56 =>
  eLet ((hd L53).1) fun r55 =>
  if ((hd L56).2.1 x0).1 = 9 then
  eLet ((hd L56).2.2.2.1 x0 1) fun r57 =>
  if ((hd L56).2.1 x0).1 = 9 then
  eLet ((hd L56).2.2.2.1 x0 0) fun r58 =>
  if ((hd L56).2.1 r55).1 = 0 then
  Option.bind (f_X0_init r55 (3 : Int32) r57 r58 L56) fun L59 =>
  if ((hd L59).2.1 r54).1 = 14 ∧ eix (3 : Int32) ((hd L59).2.1 r54).2 = true ∧ ((hd L59).2.1 r55).1 = 0 then
  eLet ((5, r54, 3, r55, 0) :: L59) fun L60 =>
  some L60
  else none
  else none
  else none
  else none
  else none
  else none
  else none
  else none
  else none
  else none
  else none
  else none
  else none
  else none
  else none
set_option maxHeartbeats 4000000 in
set_option maxRecDepth 20000 in
theorem s_X11_init_c1 (x0 : Nat) (L : List eOp) : Snd true none 2 m_X11_init (f_X11_init_c1 x0 L) cI (123, [(1, .inl ((0 : Int32))), (0, .inr (.inr (x0)))], [], hd L, 83, 3586) := by
  unfold f_X11_init_c1
  refine T_go (S' := (102, [(1, .inl ((1 : Int32))), (0, .inr (.inr (x0)))], [.inr (.inr (x0))], hd L, 83, 3586)) 6 rfl ?_
  refine TI_getR rfl (fun _ => ?_)
  refine T_let (Sf := fun r40 => (105, [(1, .inl ((1 : Int32))), (0, .inr (.inr (x0)))], [.inr (.inr (r40))], hd L, 83, 3586)) (fun r40 => ?_)
  refine T_go (S' := (106, [(1, .inl ((1 : Int32))), (0, .inr (.inr (x0)))], [.inl ((1 : Int32)), .inr (.inr (r40))], hd L, 83, 3586)) 1 rfl ?_
  refine T_go (S' := (109, [(1, .inl ((1 : Int32))), (0, .inr (.inr (x0)))], [.inr (.inr (((hd L).1))), .inl ((1 : Int32)), .inr (.inr (r40))], hd ((0, 0, 0, 0, 0) :: L), 84, 3598)) 1 rfl ?_
  refine T_let (Sf := fun L42 => (109, [(1, .inl ((1 : Int32))), (0, .inr (.inr (x0)))], [.inr (.inr (((hd L).1))), .inl ((1 : Int32)), .inr (.inr (r40))], hd L42, 84, 3598)) (fun L42 => ?_)
  refine T_let (Sf := fun r41 => (109, [(1, .inl ((1 : Int32))), (0, .inr (.inr (x0)))], [.inr (.inr (r41)), .inl ((1 : Int32)), .inr (.inr (r40))], hd L42, 84, 3598)) (fun r41 => ?_)
  refine T_go (S' := (112, [(1, .inl ((1 : Int32))), (0, .inr (.inr (x0)))], [.inr (.inr (x0)), .inl ((1 : Int32)), .inr (.inr (r41)), .inr (.inr (r41)), .inl ((1 : Int32)), .inr (.inr (r40))], hd L42, 84, 3598)) 3 rfl ?_
  refine TI_getR rfl (fun _ => ?_)
  refine T_let (Sf := fun r43 => (115, [(1, .inl ((1 : Int32))), (0, .inr (.inr (x0)))], [.inr (.inr (r43)), .inl ((1 : Int32)), .inr (.inr (r41)), .inr (.inr (r41)), .inl ((1 : Int32)), .inr (.inr (r40))], hd L42, 84, 3598)) (fun r43 => ?_)
  refine T_go (S' := (116, [(1, .inl ((1 : Int32))), (0, .inr (.inr (x0)))], [.inr (.inr (x0)), .inr (.inr (r43)), .inl ((1 : Int32)), .inr (.inr (r41)), .inr (.inr (r41)), .inl ((1 : Int32)), .inr (.inr (r40))], hd L42, 84, 3598)) 1 rfl ?_
  refine TI_getR rfl (fun _ => ?_)
  refine T_let (Sf := fun r44 => (119, [(1, .inl ((1 : Int32))), (0, .inr (.inr (x0)))], [.inr (.inr (r44)), .inr (.inr (r43)), .inl ((1 : Int32)), .inr (.inr (r41)), .inr (.inr (r41)), .inl ((1 : Int32)), .inr (.inr (r40))], hd L42, 84, 3598)) (fun r44 => ?_)
  refine TI_isp (as := [.inr (.inr (r41)), .inl ((1 : Int32)), .inr (.inr (r43)), .inr (.inr (r44))]) (rest := [.inr (.inr (r41)), .inl ((1 : Int32)), .inr (.inr (r40))]) (st := [.inr (.inr (r44)), .inr (.inr (r43)), .inl ((1 : Int32)), .inr (.inr (r41)), .inr (.inr (r41)), .inl ((1 : Int32)), .inr (.inr (r40))]) rfl rfl rfl ⟨lb rfl, lb rfl, lb rfl, lb rfl⟩ (fun _ h => Ew_le (lb rfl) (s_X0_init r41 (1 : Int32) r43 r44 L42 _ h)) (fun _ L45 => ?_)
  show Snd true none _ _ _ _ (122, [(1, .inl ((1 : Int32))), (0, .inr (.inr (x0)))], [.inr (.inr (r41)), .inl ((1 : Int32)), .inr (.inr (r40))], hd L45, 95, 3689)
  refine TI_aast rfl (fun _ => ?_)
  refine T_let (Sf := fun L46 => (123, [(1, .inl ((1 : Int32))), (0, .inr (.inr (x0)))], [], hd L46, 95, 3689)) (fun L46 => ?_)
  refine T_go (S' := (102, [(1, .inl ((2 : Int32))), (0, .inr (.inr (x0)))], [.inr (.inr (x0))], hd L46, 95, 3689)) 6 rfl ?_
  refine TI_getR rfl (fun _ => ?_)
  refine T_let (Sf := fun r47 => (105, [(1, .inl ((2 : Int32))), (0, .inr (.inr (x0)))], [.inr (.inr (r47))], hd L46, 95, 3689)) (fun r47 => ?_)
  refine T_go (S' := (106, [(1, .inl ((2 : Int32))), (0, .inr (.inr (x0)))], [.inl ((2 : Int32)), .inr (.inr (r47))], hd L46, 95, 3689)) 1 rfl ?_
  refine T_go (S' := (109, [(1, .inl ((2 : Int32))), (0, .inr (.inr (x0)))], [.inr (.inr (((hd L46).1))), .inl ((2 : Int32)), .inr (.inr (r47))], hd ((0, 0, 0, 0, 0) :: L46), 96, 3701)) 1 rfl ?_
  refine T_let (Sf := fun L49 => (109, [(1, .inl ((2 : Int32))), (0, .inr (.inr (x0)))], [.inr (.inr (((hd L46).1))), .inl ((2 : Int32)), .inr (.inr (r47))], hd L49, 96, 3701)) (fun L49 => ?_)
  refine T_let (Sf := fun r48 => (109, [(1, .inl ((2 : Int32))), (0, .inr (.inr (x0)))], [.inr (.inr (r48)), .inl ((2 : Int32)), .inr (.inr (r47))], hd L49, 96, 3701)) (fun r48 => ?_)
  refine T_go (S' := (112, [(1, .inl ((2 : Int32))), (0, .inr (.inr (x0)))], [.inr (.inr (x0)), .inl ((2 : Int32)), .inr (.inr (r48)), .inr (.inr (r48)), .inl ((2 : Int32)), .inr (.inr (r47))], hd L49, 96, 3701)) 3 rfl ?_
  refine TI_getR rfl (fun _ => ?_)
  refine T_let (Sf := fun r50 => (115, [(1, .inl ((2 : Int32))), (0, .inr (.inr (x0)))], [.inr (.inr (r50)), .inl ((2 : Int32)), .inr (.inr (r48)), .inr (.inr (r48)), .inl ((2 : Int32)), .inr (.inr (r47))], hd L49, 96, 3701)) (fun r50 => ?_)
  refine T_go (S' := (116, [(1, .inl ((2 : Int32))), (0, .inr (.inr (x0)))], [.inr (.inr (x0)), .inr (.inr (r50)), .inl ((2 : Int32)), .inr (.inr (r48)), .inr (.inr (r48)), .inl ((2 : Int32)), .inr (.inr (r47))], hd L49, 96, 3701)) 1 rfl ?_
  refine TI_getR rfl (fun _ => ?_)
  refine T_let (Sf := fun r51 => (119, [(1, .inl ((2 : Int32))), (0, .inr (.inr (x0)))], [.inr (.inr (r51)), .inr (.inr (r50)), .inl ((2 : Int32)), .inr (.inr (r48)), .inr (.inr (r48)), .inl ((2 : Int32)), .inr (.inr (r47))], hd L49, 96, 3701)) (fun r51 => ?_)
  refine TI_isp (as := [.inr (.inr (r48)), .inl ((2 : Int32)), .inr (.inr (r50)), .inr (.inr (r51))]) (rest := [.inr (.inr (r48)), .inl ((2 : Int32)), .inr (.inr (r47))]) (st := [.inr (.inr (r51)), .inr (.inr (r50)), .inl ((2 : Int32)), .inr (.inr (r48)), .inr (.inr (r48)), .inl ((2 : Int32)), .inr (.inr (r47))]) rfl rfl rfl ⟨lb rfl, lb rfl, lb rfl, lb rfl⟩ (fun _ h => Ew_le (lb rfl) (s_X0_init r48 (2 : Int32) r50 r51 L49 _ h)) (fun _ L52 => ?_)
  show Snd true none _ _ _ _ (122, [(1, .inl ((2 : Int32))), (0, .inr (.inr (x0)))], [.inr (.inr (r48)), .inl ((2 : Int32)), .inr (.inr (r47))], hd L52, 107, 3792)
  refine TI_aast rfl (fun _ => ?_)
  refine T_let (Sf := fun L53 => (123, [(1, .inl ((2 : Int32))), (0, .inr (.inr (x0)))], [], hd L53, 107, 3792)) (fun L53 => ?_)
  refine T_go (S' := (102, [(1, .inl ((3 : Int32))), (0, .inr (.inr (x0)))], [.inr (.inr (x0))], hd L53, 107, 3792)) 6 rfl ?_
  refine TI_getR rfl (fun _ => ?_)
  refine T_let (Sf := fun r54 => (105, [(1, .inl ((3 : Int32))), (0, .inr (.inr (x0)))], [.inr (.inr (r54))], hd L53, 107, 3792)) (fun r54 => ?_)
  refine T_go (S' := (106, [(1, .inl ((3 : Int32))), (0, .inr (.inr (x0)))], [.inl ((3 : Int32)), .inr (.inr (r54))], hd L53, 107, 3792)) 1 rfl ?_
  refine T_go (S' := (109, [(1, .inl ((3 : Int32))), (0, .inr (.inr (x0)))], [.inr (.inr (((hd L53).1))), .inl ((3 : Int32)), .inr (.inr (r54))], hd ((0, 0, 0, 0, 0) :: L53), 108, 3804)) 1 rfl ?_
  refine T_let (Sf := fun L56 => (109, [(1, .inl ((3 : Int32))), (0, .inr (.inr (x0)))], [.inr (.inr (((hd L53).1))), .inl ((3 : Int32)), .inr (.inr (r54))], hd L56, 108, 3804)) (fun L56 => ?_)
  refine T_let (Sf := fun r55 => (109, [(1, .inl ((3 : Int32))), (0, .inr (.inr (x0)))], [.inr (.inr (r55)), .inl ((3 : Int32)), .inr (.inr (r54))], hd L56, 108, 3804)) (fun r55 => ?_)
  refine T_go (S' := (112, [(1, .inl ((3 : Int32))), (0, .inr (.inr (x0)))], [.inr (.inr (x0)), .inl ((3 : Int32)), .inr (.inr (r55)), .inr (.inr (r55)), .inl ((3 : Int32)), .inr (.inr (r54))], hd L56, 108, 3804)) 3 rfl ?_
  refine TI_getR rfl (fun _ => ?_)
  refine T_let (Sf := fun r57 => (115, [(1, .inl ((3 : Int32))), (0, .inr (.inr (x0)))], [.inr (.inr (r57)), .inl ((3 : Int32)), .inr (.inr (r55)), .inr (.inr (r55)), .inl ((3 : Int32)), .inr (.inr (r54))], hd L56, 108, 3804)) (fun r57 => ?_)
  refine T_go (S' := (116, [(1, .inl ((3 : Int32))), (0, .inr (.inr (x0)))], [.inr (.inr (x0)), .inr (.inr (r57)), .inl ((3 : Int32)), .inr (.inr (r55)), .inr (.inr (r55)), .inl ((3 : Int32)), .inr (.inr (r54))], hd L56, 108, 3804)) 1 rfl ?_
  refine TI_getR rfl (fun _ => ?_)
  refine T_let (Sf := fun r58 => (119, [(1, .inl ((3 : Int32))), (0, .inr (.inr (x0)))], [.inr (.inr (r58)), .inr (.inr (r57)), .inl ((3 : Int32)), .inr (.inr (r55)), .inr (.inr (r55)), .inl ((3 : Int32)), .inr (.inr (r54))], hd L56, 108, 3804)) (fun r58 => ?_)
  refine TI_isp (as := [.inr (.inr (r55)), .inl ((3 : Int32)), .inr (.inr (r57)), .inr (.inr (r58))]) (rest := [.inr (.inr (r55)), .inl ((3 : Int32)), .inr (.inr (r54))]) (st := [.inr (.inr (r58)), .inr (.inr (r57)), .inl ((3 : Int32)), .inr (.inr (r55)), .inr (.inr (r55)), .inl ((3 : Int32)), .inr (.inr (r54))]) rfl rfl rfl ⟨lb rfl, lb rfl, lb rfl, lb rfl⟩ (fun _ h => Ew_le (lb rfl) (s_X0_init r55 (3 : Int32) r57 r58 L56 _ h)) (fun _ L59 => ?_)
  show Snd true none _ _ _ _ (122, [(1, .inl ((3 : Int32))), (0, .inr (.inr (x0)))], [.inr (.inr (r55)), .inl ((3 : Int32)), .inr (.inr (r54))], hd L59, 119, 3895)
  refine TI_aast rfl (fun _ => ?_)
  refine T_let (Sf := fun L60 => (123, [(1, .inl ((3 : Int32))), (0, .inr (.inr (x0)))], [], hd L60, 119, 3895)) (fun L60 => ?_)
  refine T_go (S' := (129, [(1, .inl ((4 : Int32))), (0, .inr (.inr (x0)))], [], hd L60, 119, 3895)) 5 rfl ?_
  exact T_ret rfl
set_option maxRecDepth 20000 in
def f_X11_init (x0 : Nat) (L : List eOp) : Option (List eOp) :=
  if 2 ≤ x0 ∧ ecats [] ≤ 8 then
  eLet ((1, 11, 10, 0, 0) :: L) fun L2 =>
  eLet ((hd L).1) fun r1 =>
  if ((hd L2).2.1 x0).1 = 9 then
  eLet ((5, x0, 0, r1, 0) :: L2) fun L3 =>
  eLet ((0, 3, 0, 0, 0) :: L3) fun L5 =>
  eLet ((hd L3).1) fun r4 =>
  if ((hd L5).2.1 r4).1 = 3 then
  Option.bind (f_X3_init r4 L5) fun L6 =>
  if ((hd L6).2.1 x0).1 = 9 then
  eLet ((5, x0, 1, r4, 0) :: L6) fun L7 =>
  eLet ((0, 1, 0, 0, 0) :: L7) fun L9 =>
  eLet ((hd L7).1) fun r8 =>
  if ((hd L9).2.1 x0).1 = 9 then
  eLet ((hd L9).2.2.2.1 x0 1) fun r10 =>
  if ((hd L9).2.1 x0).1 = 9 then
  eLet ((hd L9).2.2.2.1 x0 0) fun r11 =>
  if ((hd L9).2.1 r8).1 = 1 then
  Option.bind (f_X1_init r8 r10 r11 L9) fun L12 =>
  if ((hd L12).2.1 x0).1 = 9 then
  eLet ((5, x0, 2, r8, 0) :: L12) fun L13 =>
  eLet ((2, 14, 4, 0, 0) :: L13) fun L15 =>
  eLet ((hd L13).1) fun r14 =>
  if ((hd L15).2.1 x0).1 = 9 then
  eLet ((5, x0, 3, r14, 0) :: L15) fun L16 =>
  eLet ((0, 7, 0, 0, 0) :: L16) fun L18 =>
  eLet ((hd L16).1) fun r17 =>
  if ((hd L18).2.1 r17).1 = 7 then
  Option.bind (f_X8_init r17 L18) fun L19 =>
  if ((hd L19).2.1 x0).1 = 9 then
  eLet ((5, x0, 4, r17, 0) :: L19) fun L20 =>
  eLet ((0, 5, 0, 0, 0) :: L20) fun L22 =>
  eLet ((hd L20).1) fun r21 =>
  if ((hd L22).2.1 r21).1 = 5 then
  Option.bind (f_X6_init r21 L22) fun L23 =>
  if ((hd L23).2.1 x0).1 = 9 then
  eLet ((5, x0, 5, r21, 0) :: L23) fun L24 =>
  eLet ((0, 5, 0, 0, 0) :: L24) fun L26 =>
  eLet ((hd L24).1) fun r25 =>
  if ((hd L26).2.1 r25).1 = 5 then
  Option.bind (f_X6_init r25 L26) fun L27 =>
  if ((hd L27).2.1 x0).1 = 9 then
  eLet ((5, x0, 6, r25, 0) :: L27) fun L28 =>
  eLet ((0, 4, 0, 0, 0) :: L28) fun L30 =>
  eLet ((hd L28).1) fun r29 =>
  if ((hd L30).2.1 r29).1 = 4 then
  Option.bind (f_X5_init r29 L30) fun L31 =>
  if ((hd L31).2.1 x0).1 = 9 then
  eLet ((5, x0, 7, r29, 0) :: L31) fun L32 =>
  if ((hd L32).2.1 x0).1 = 9 then
  eLet ((hd L32).2.2.2.1 x0 3) fun r33 =>
  eLet ((0, 0, 0, 0, 0) :: L32) fun L35 =>
  eLet ((hd L32).1) fun r34 =>
  if ((hd L35).2.1 x0).1 = 9 then
  eLet ((hd L35).2.2.2.1 x0 1) fun r36 =>
  if ((hd L35).2.1 x0).1 = 9 then
  eLet ((hd L35).2.2.2.1 x0 0) fun r37 =>
  if ((hd L35).2.1 r34).1 = 0 then
  Option.bind (f_X0_init r34 (0 : Int32) r36 r37 L35) fun L38 =>
  if ((hd L38).2.1 r33).1 = 14 ∧ eix (0 : Int32) ((hd L38).2.1 r33).2 = true ∧ ((hd L38).2.1 r34).1 = 0 then
  eLet ((5, r33, 0, r34, 0) :: L38) fun L39 =>
  f_X11_init_c1 x0 L39
  else none
  else none
  else none
  else none
  else none
  else none
  else none
  else none
  else none
  else none
  else none
  else none
  else none
  else none
  else none
  else none
  else none
  else none
  else none
  else none
  else none
  else none
set_option maxHeartbeats 4000000 in
set_option maxRecDepth 20000 in
theorem s_X11_init (x0 : Nat) (L : List eOp) : ∀ L2, f_X11_init x0 L = some L2 → Ew true 3 97 [.inr (.inr (x0))] (hd L) (cI L2) := by
  refine T_meth (md := m_X11_init) (d0 := 2) (cv := cI) rfl (lb rfl) (lb rfl) ?_
  unfold f_X11_init
  show Snd true none _ _ _ _ (0, [(0, .inr (.inr (x0)))], [], hd L, 0, 0)
  refine T_go (S' := (1, [(0, .inr (.inr (x0)))], [.inr (.inr (x0))], hd L, 0, 0)) 1 rfl ?_
  refine TI_obj rfl (fun _ => ?_)
  show Snd true none _ _ _ _ (4, [(0, .inr (.inr (x0)))], [], hd L, 0, 0)
  refine T_go (S' := (7, [(0, .inr (.inr (x0)))], [.inl ((10 : Int32)), .inr (.inr (x0))], hd L, 0, 0)) 2 rfl ?_
  refine T_go (S' := (9, [(0, .inr (.inr (x0)))], [.inr (.inr (((hd L).1))), .inr (.inr (x0))], hd ((1, 11, 10, 0, 0) :: L), 1, 10)) 1 rfl ?_
  refine T_let (Sf := fun L2 => (9, [(0, .inr (.inr (x0)))], [.inr (.inr (((hd L).1))), .inr (.inr (x0))], hd L2, 1, 10)) (fun L2 => ?_)
  refine T_let (Sf := fun r1 => (9, [(0, .inr (.inr (x0)))], [.inr (.inr (r1)), .inr (.inr (x0))], hd L2, 1, 10)) (fun r1 => ?_)
  refine TI_putR rfl (fun _ => ?_)
  refine T_let (Sf := fun L3 => (12, [(0, .inr (.inr (x0)))], [], hd L3, 1, 10)) (fun L3 => ?_)
  refine T_go (S' := (13, [(0, .inr (.inr (x0)))], [.inr (.inr (x0))], hd L3, 1, 10)) 1 rfl ?_
  refine T_go (S' := (16, [(0, .inr (.inr (x0)))], [.inr (.inr (((hd L3).1))), .inr (.inr (x0))], hd ((0, 3, 0, 0, 0) :: L3), 2, 13)) 1 rfl ?_
  refine T_let (Sf := fun L5 => (16, [(0, .inr (.inr (x0)))], [.inr (.inr (((hd L3).1))), .inr (.inr (x0))], hd L5, 2, 13)) (fun L5 => ?_)
  refine T_let (Sf := fun r4 => (16, [(0, .inr (.inr (x0)))], [.inr (.inr (r4)), .inr (.inr (x0))], hd L5, 2, 13)) (fun r4 => ?_)
  refine T_go (S' := (17, [(0, .inr (.inr (x0)))], [.inr (.inr (r4)), .inr (.inr (r4)), .inr (.inr (x0))], hd L5, 2, 13)) 1 rfl ?_
  refine TI_isp (as := [.inr (.inr (r4))]) (rest := [.inr (.inr (r4)), .inr (.inr (x0))]) (st := [.inr (.inr (r4)), .inr (.inr (r4)), .inr (.inr (x0))]) rfl rfl rfl ⟨lb rfl, lb rfl, lb rfl, lb rfl⟩ (fun _ h => Ew_le (lb rfl) (s_X3_init r4 L5 _ h)) (fun _ L6 => ?_)
  show Snd true none _ _ _ _ (20, [(0, .inr (.inr (x0)))], [.inr (.inr (r4)), .inr (.inr (x0))], hd L6, 20, 1018)
  refine TI_putR rfl (fun _ => ?_)
  refine T_let (Sf := fun L7 => (23, [(0, .inr (.inr (x0)))], [], hd L7, 20, 1018)) (fun L7 => ?_)
  refine T_go (S' := (24, [(0, .inr (.inr (x0)))], [.inr (.inr (x0))], hd L7, 20, 1018)) 1 rfl ?_
  refine T_go (S' := (27, [(0, .inr (.inr (x0)))], [.inr (.inr (((hd L7).1))), .inr (.inr (x0))], hd ((0, 1, 0, 0, 0) :: L7), 21, 1021)) 1 rfl ?_
  refine T_let (Sf := fun L9 => (27, [(0, .inr (.inr (x0)))], [.inr (.inr (((hd L7).1))), .inr (.inr (x0))], hd L9, 21, 1021)) (fun L9 => ?_)
  refine T_let (Sf := fun r8 => (27, [(0, .inr (.inr (x0)))], [.inr (.inr (r8)), .inr (.inr (x0))], hd L9, 21, 1021)) (fun r8 => ?_)
  refine T_go (S' := (29, [(0, .inr (.inr (x0)))], [.inr (.inr (x0)), .inr (.inr (r8)), .inr (.inr (r8)), .inr (.inr (x0))], hd L9, 21, 1021)) 2 rfl ?_
  refine TI_getR rfl (fun _ => ?_)
  refine T_let (Sf := fun r10 => (32, [(0, .inr (.inr (x0)))], [.inr (.inr (r10)), .inr (.inr (r8)), .inr (.inr (r8)), .inr (.inr (x0))], hd L9, 21, 1021)) (fun r10 => ?_)
  refine T_go (S' := (33, [(0, .inr (.inr (x0)))], [.inr (.inr (x0)), .inr (.inr (r10)), .inr (.inr (r8)), .inr (.inr (r8)), .inr (.inr (x0))], hd L9, 21, 1021)) 1 rfl ?_
  refine TI_getR rfl (fun _ => ?_)
  refine T_let (Sf := fun r11 => (36, [(0, .inr (.inr (x0)))], [.inr (.inr (r11)), .inr (.inr (r10)), .inr (.inr (r8)), .inr (.inr (r8)), .inr (.inr (x0))], hd L9, 21, 1021)) (fun r11 => ?_)
  refine TI_isp (as := [.inr (.inr (r8)), .inr (.inr (r10)), .inr (.inr (r11))]) (rest := [.inr (.inr (r8)), .inr (.inr (x0))]) (st := [.inr (.inr (r11)), .inr (.inr (r10)), .inr (.inr (r8)), .inr (.inr (r8)), .inr (.inr (x0))]) rfl rfl rfl ⟨lb rfl, lb rfl, lb rfl, lb rfl⟩ (fun _ h => Ew_le (lb rfl) (s_X1_init r8 r10 r11 L9 _ h)) (fun _ L12 => ?_)
  show Snd true none _ _ _ _ (39, [(0, .inr (.inr (x0)))], [.inr (.inr (r8)), .inr (.inr (x0))], hd L12, 54, 1229)
  refine TI_putR rfl (fun _ => ?_)
  refine T_let (Sf := fun L13 => (42, [(0, .inr (.inr (x0)))], [], hd L13, 54, 1229)) (fun L13 => ?_)
  refine T_go (S' := (44, [(0, .inr (.inr (x0)))], [.inl ((4 : Int32)), .inr (.inr (x0))], hd L13, 54, 1229)) 2 rfl ?_
  refine T_go (S' := (47, [(0, .inr (.inr (x0)))], [.inr (.inr (((hd L13).1))), .inr (.inr (x0))], hd ((2, 14, 4, 0, 0) :: L13), 55, 1233)) 1 rfl ?_
  refine T_let (Sf := fun L15 => (47, [(0, .inr (.inr (x0)))], [.inr (.inr (((hd L13).1))), .inr (.inr (x0))], hd L15, 55, 1233)) (fun L15 => ?_)
  refine T_let (Sf := fun r14 => (47, [(0, .inr (.inr (x0)))], [.inr (.inr (r14)), .inr (.inr (x0))], hd L15, 55, 1233)) (fun r14 => ?_)
  refine TI_putR rfl (fun _ => ?_)
  refine T_let (Sf := fun L16 => (50, [(0, .inr (.inr (x0)))], [], hd L16, 55, 1233)) (fun L16 => ?_)
  refine T_go (S' := (51, [(0, .inr (.inr (x0)))], [.inr (.inr (x0))], hd L16, 55, 1233)) 1 rfl ?_
  refine T_go (S' := (54, [(0, .inr (.inr (x0)))], [.inr (.inr (((hd L16).1))), .inr (.inr (x0))], hd ((0, 7, 0, 0, 0) :: L16), 56, 1238)) 1 rfl ?_
  refine T_let (Sf := fun L18 => (54, [(0, .inr (.inr (x0)))], [.inr (.inr (((hd L16).1))), .inr (.inr (x0))], hd L18, 56, 1238)) (fun L18 => ?_)
  refine T_let (Sf := fun r17 => (54, [(0, .inr (.inr (x0)))], [.inr (.inr (r17)), .inr (.inr (x0))], hd L18, 56, 1238)) (fun r17 => ?_)
  refine T_go (S' := (55, [(0, .inr (.inr (x0)))], [.inr (.inr (r17)), .inr (.inr (r17)), .inr (.inr (x0))], hd L18, 56, 1238)) 1 rfl ?_
  refine TI_isp (as := [.inr (.inr (r17))]) (rest := [.inr (.inr (r17)), .inr (.inr (x0))]) (st := [.inr (.inr (r17)), .inr (.inr (r17)), .inr (.inr (x0))]) rfl rfl rfl ⟨lb rfl, lb rfl, lb rfl, lb rfl⟩ (fun _ h => Ew_le (lb rfl) (s_X8_init r17 L18 _ h)) (fun _ L19 => ?_)
  show Snd true none _ _ _ _ (58, [(0, .inr (.inr (x0)))], [.inr (.inr (r17)), .inr (.inr (x0))], hd L19, 61, 1289)
  refine TI_putR rfl (fun _ => ?_)
  refine T_let (Sf := fun L20 => (61, [(0, .inr (.inr (x0)))], [], hd L20, 61, 1289)) (fun L20 => ?_)
  refine T_go (S' := (62, [(0, .inr (.inr (x0)))], [.inr (.inr (x0))], hd L20, 61, 1289)) 1 rfl ?_
  refine T_go (S' := (65, [(0, .inr (.inr (x0)))], [.inr (.inr (((hd L20).1))), .inr (.inr (x0))], hd ((0, 5, 0, 0, 0) :: L20), 62, 1292)) 1 rfl ?_
  refine T_let (Sf := fun L22 => (65, [(0, .inr (.inr (x0)))], [.inr (.inr (((hd L20).1))), .inr (.inr (x0))], hd L22, 62, 1292)) (fun L22 => ?_)
  refine T_let (Sf := fun r21 => (65, [(0, .inr (.inr (x0)))], [.inr (.inr (r21)), .inr (.inr (x0))], hd L22, 62, 1292)) (fun r21 => ?_)
  refine T_go (S' := (66, [(0, .inr (.inr (x0)))], [.inr (.inr (r21)), .inr (.inr (r21)), .inr (.inr (x0))], hd L22, 62, 1292)) 1 rfl ?_
  refine TI_isp (as := [.inr (.inr (r21))]) (rest := [.inr (.inr (r21)), .inr (.inr (x0))]) (st := [.inr (.inr (r21)), .inr (.inr (r21)), .inr (.inr (x0))]) rfl rfl rfl ⟨lb rfl, lb rfl, lb rfl, lb rfl⟩ (fun _ h => Ew_le (lb rfl) (s_X6_init r21 L22 _ h)) (fun _ L23 => ?_)
  show Snd true none _ _ _ _ (69, [(0, .inr (.inr (x0)))], [.inr (.inr (r21)), .inr (.inr (x0))], hd L23, 63, 2012)
  refine TI_putR rfl (fun _ => ?_)
  refine T_let (Sf := fun L24 => (72, [(0, .inr (.inr (x0)))], [], hd L24, 63, 2012)) (fun L24 => ?_)
  refine T_go (S' := (73, [(0, .inr (.inr (x0)))], [.inr (.inr (x0))], hd L24, 63, 2012)) 1 rfl ?_
  refine T_go (S' := (76, [(0, .inr (.inr (x0)))], [.inr (.inr (((hd L24).1))), .inr (.inr (x0))], hd ((0, 5, 0, 0, 0) :: L24), 64, 2015)) 1 rfl ?_
  refine T_let (Sf := fun L26 => (76, [(0, .inr (.inr (x0)))], [.inr (.inr (((hd L24).1))), .inr (.inr (x0))], hd L26, 64, 2015)) (fun L26 => ?_)
  refine T_let (Sf := fun r25 => (76, [(0, .inr (.inr (x0)))], [.inr (.inr (r25)), .inr (.inr (x0))], hd L26, 64, 2015)) (fun r25 => ?_)
  refine T_go (S' := (77, [(0, .inr (.inr (x0)))], [.inr (.inr (r25)), .inr (.inr (r25)), .inr (.inr (x0))], hd L26, 64, 2015)) 1 rfl ?_
  refine TI_isp (as := [.inr (.inr (r25))]) (rest := [.inr (.inr (r25)), .inr (.inr (x0))]) (st := [.inr (.inr (r25)), .inr (.inr (r25)), .inr (.inr (x0))]) rfl rfl rfl ⟨lb rfl, lb rfl, lb rfl, lb rfl⟩ (fun _ h => Ew_le (lb rfl) (s_X6_init r25 L26 _ h)) (fun _ L27 => ?_)
  show Snd true none _ _ _ _ (80, [(0, .inr (.inr (x0)))], [.inr (.inr (r25)), .inr (.inr (x0))], hd L27, 65, 2735)
  refine TI_putR rfl (fun _ => ?_)
  refine T_let (Sf := fun L28 => (83, [(0, .inr (.inr (x0)))], [], hd L28, 65, 2735)) (fun L28 => ?_)
  refine T_go (S' := (84, [(0, .inr (.inr (x0)))], [.inr (.inr (x0))], hd L28, 65, 2735)) 1 rfl ?_
  refine T_go (S' := (87, [(0, .inr (.inr (x0)))], [.inr (.inr (((hd L28).1))), .inr (.inr (x0))], hd ((0, 4, 0, 0, 0) :: L28), 66, 2739)) 1 rfl ?_
  refine T_let (Sf := fun L30 => (87, [(0, .inr (.inr (x0)))], [.inr (.inr (((hd L28).1))), .inr (.inr (x0))], hd L30, 66, 2739)) (fun L30 => ?_)
  refine T_let (Sf := fun r29 => (87, [(0, .inr (.inr (x0)))], [.inr (.inr (r29)), .inr (.inr (x0))], hd L30, 66, 2739)) (fun r29 => ?_)
  refine T_go (S' := (88, [(0, .inr (.inr (x0)))], [.inr (.inr (r29)), .inr (.inr (r29)), .inr (.inr (x0))], hd L30, 66, 2739)) 1 rfl ?_
  refine TI_isp (as := [.inr (.inr (r29))]) (rest := [.inr (.inr (r29)), .inr (.inr (x0))]) (st := [.inr (.inr (r29)), .inr (.inr (r29)), .inr (.inr (x0))]) rfl rfl rfl ⟨lb rfl, lb rfl, lb rfl, lb rfl⟩ (fun _ h => Ew_le (lb rfl) (s_X5_init r29 L30 _ h)) (fun _ L31 => ?_)
  show Snd true none _ _ _ _ (91, [(0, .inr (.inr (x0)))], [.inr (.inr (r29)), .inr (.inr (x0))], hd L31, 71, 3483)
  refine TI_putR rfl (fun _ => ?_)
  refine T_let (Sf := fun L32 => (94, [(0, .inr (.inr (x0)))], [], hd L32, 71, 3483)) (fun L32 => ?_)
  refine T_go (S' := (102, [(1, .inl ((0 : Int32))), (0, .inr (.inr (x0)))], [.inr (.inr (x0))], hd L32, 71, 3483)) 6 rfl ?_
  refine TI_getR rfl (fun _ => ?_)
  refine T_let (Sf := fun r33 => (105, [(1, .inl ((0 : Int32))), (0, .inr (.inr (x0)))], [.inr (.inr (r33))], hd L32, 71, 3483)) (fun r33 => ?_)
  refine T_go (S' := (106, [(1, .inl ((0 : Int32))), (0, .inr (.inr (x0)))], [.inl ((0 : Int32)), .inr (.inr (r33))], hd L32, 71, 3483)) 1 rfl ?_
  refine T_go (S' := (109, [(1, .inl ((0 : Int32))), (0, .inr (.inr (x0)))], [.inr (.inr (((hd L32).1))), .inl ((0 : Int32)), .inr (.inr (r33))], hd ((0, 0, 0, 0, 0) :: L32), 72, 3495)) 1 rfl ?_
  refine T_let (Sf := fun L35 => (109, [(1, .inl ((0 : Int32))), (0, .inr (.inr (x0)))], [.inr (.inr (((hd L32).1))), .inl ((0 : Int32)), .inr (.inr (r33))], hd L35, 72, 3495)) (fun L35 => ?_)
  refine T_let (Sf := fun r34 => (109, [(1, .inl ((0 : Int32))), (0, .inr (.inr (x0)))], [.inr (.inr (r34)), .inl ((0 : Int32)), .inr (.inr (r33))], hd L35, 72, 3495)) (fun r34 => ?_)
  refine T_go (S' := (112, [(1, .inl ((0 : Int32))), (0, .inr (.inr (x0)))], [.inr (.inr (x0)), .inl ((0 : Int32)), .inr (.inr (r34)), .inr (.inr (r34)), .inl ((0 : Int32)), .inr (.inr (r33))], hd L35, 72, 3495)) 3 rfl ?_
  refine TI_getR rfl (fun _ => ?_)
  refine T_let (Sf := fun r36 => (115, [(1, .inl ((0 : Int32))), (0, .inr (.inr (x0)))], [.inr (.inr (r36)), .inl ((0 : Int32)), .inr (.inr (r34)), .inr (.inr (r34)), .inl ((0 : Int32)), .inr (.inr (r33))], hd L35, 72, 3495)) (fun r36 => ?_)
  refine T_go (S' := (116, [(1, .inl ((0 : Int32))), (0, .inr (.inr (x0)))], [.inr (.inr (x0)), .inr (.inr (r36)), .inl ((0 : Int32)), .inr (.inr (r34)), .inr (.inr (r34)), .inl ((0 : Int32)), .inr (.inr (r33))], hd L35, 72, 3495)) 1 rfl ?_
  refine TI_getR rfl (fun _ => ?_)
  refine T_let (Sf := fun r37 => (119, [(1, .inl ((0 : Int32))), (0, .inr (.inr (x0)))], [.inr (.inr (r37)), .inr (.inr (r36)), .inl ((0 : Int32)), .inr (.inr (r34)), .inr (.inr (r34)), .inl ((0 : Int32)), .inr (.inr (r33))], hd L35, 72, 3495)) (fun r37 => ?_)
  refine TI_isp (as := [.inr (.inr (r34)), .inl ((0 : Int32)), .inr (.inr (r36)), .inr (.inr (r37))]) (rest := [.inr (.inr (r34)), .inl ((0 : Int32)), .inr (.inr (r33))]) (st := [.inr (.inr (r37)), .inr (.inr (r36)), .inl ((0 : Int32)), .inr (.inr (r34)), .inr (.inr (r34)), .inl ((0 : Int32)), .inr (.inr (r33))]) rfl rfl rfl ⟨lb rfl, lb rfl, lb rfl, lb rfl⟩ (fun _ h => Ew_le (lb rfl) (s_X0_init r34 (0 : Int32) r36 r37 L35 _ h)) (fun _ L38 => ?_)
  show Snd true none _ _ _ _ (122, [(1, .inl ((0 : Int32))), (0, .inr (.inr (x0)))], [.inr (.inr (r34)), .inl ((0 : Int32)), .inr (.inr (r33))], hd L38, 83, 3586)
  refine TI_aast rfl (fun _ => ?_)
  refine T_let (Sf := fun L39 => (123, [(1, .inl ((0 : Int32))), (0, .inr (.inr (x0)))], [], hd L39, 83, 3586)) (fun L39 => ?_)
  exact s_X11_init_c1 x0 L39
set_option maxRecDepth 20000 in
def f_X12_init_c10 (x0 : Nat) (L : List eOp) : Option (List eOp) :=
  if ((hd L).2.1 x0).1 = 10 then
  eLet ((hd L).2.2.2.1 x0 19) fun r357 =>
  if ((hd L).2.1 r357).1 = 11 ∧ eix (57 : Int32) ((hd L).2.1 r357).2 = true then
  eLet ((4, r357, 57, 0, (-1 : Int32)) :: L) fun L358 =>
  if ((hd L358).2.1 x0).1 = 10 then
  eLet ((hd L358).2.2.2.1 x0 19) fun r359 =>
  if ((hd L358).2.1 r359).1 = 11 ∧ eix (58 : Int32) ((hd L358).2.1 r359).2 = true then
  eLet ((4, r359, 58, 0, (-1 : Int32)) :: L358) fun L360 =>
  if ((hd L360).2.1 x0).1 = 10 then
  eLet ((hd L360).2.2.2.1 x0 19) fun r361 =>
  if ((hd L360).2.1 r361).1 = 11 ∧ eix (59 : Int32) ((hd L360).2.1 r361).2 = true then
  eLet ((4, r361, 59, 0, (-1 : Int32)) :: L360) fun L362 =>
  if ((hd L362).2.1 x0).1 = 10 then
  eLet ((hd L362).2.2.2.1 x0 19) fun r363 =>
  if ((hd L362).2.1 r363).1 = 11 ∧ eix (60 : Int32) ((hd L362).2.1 r363).2 = true then
  eLet ((4, r363, 60, 0, (-1 : Int32)) :: L362) fun L364 =>
  if ((hd L364).2.1 x0).1 = 10 then
  eLet ((hd L364).2.2.2.1 x0 19) fun r365 =>
  if ((hd L364).2.1 r365).1 = 11 ∧ eix (61 : Int32) ((hd L364).2.1 r365).2 = true then
  eLet ((4, r365, 61, 0, (-1 : Int32)) :: L364) fun L366 =>
  if ((hd L366).2.1 x0).1 = 10 then
  eLet ((hd L366).2.2.2.1 x0 19) fun r367 =>
  if ((hd L366).2.1 r367).1 = 11 ∧ eix (62 : Int32) ((hd L366).2.1 r367).2 = true then
  eLet ((4, r367, 62, 0, (-1 : Int32)) :: L366) fun L368 =>
  if ((hd L368).2.1 x0).1 = 10 then
  eLet ((hd L368).2.2.2.1 x0 19) fun r369 =>
  if ((hd L368).2.1 r369).1 = 11 ∧ eix (63 : Int32) ((hd L368).2.1 r369).2 = true then
  eLet ((4, r369, 63, 0, (-1 : Int32)) :: L368) fun L370 =>
  if ((hd L370).2.1 x0).1 = 10 then
  eLet ((hd L370).2.2.2.1 x0 29) fun r371 =>
  if ((hd L370).2.1 r371).1 = 11 ∧ eix (0 : Int32) ((hd L370).2.1 r371).2 = true then
  eLet ((4, r371, 0, 0, (-1 : Int32)) :: L370) fun L372 =>
  if ((hd L372).2.1 x0).1 = 10 then
  eLet ((hd L372).2.2.2.1 x0 29) fun r373 =>
  if ((hd L372).2.1 r373).1 = 11 ∧ eix (1 : Int32) ((hd L372).2.1 r373).2 = true then
  eLet ((4, r373, 1, 0, (-1 : Int32)) :: L372) fun L374 =>
  if ((hd L374).2.1 x0).1 = 10 then
  eLet ((hd L374).2.2.2.1 x0 29) fun r375 =>
  if ((hd L374).2.1 r375).1 = 11 ∧ eix (2 : Int32) ((hd L374).2.1 r375).2 = true then
  eLet ((4, r375, 2, 0, (-1 : Int32)) :: L374) fun L376 =>
  if ((hd L376).2.1 x0).1 = 10 then
  eLet ((hd L376).2.2.2.1 x0 29) fun r377 =>
  if ((hd L376).2.1 r377).1 = 11 ∧ eix (3 : Int32) ((hd L376).2.1 r377).2 = true then
  eLet ((4, r377, 3, 0, (-1 : Int32)) :: L376) fun L378 =>
  some L378
  else none
  else none
  else none
  else none
  else none
  else none
  else none
  else none
  else none
  else none
  else none
  else none
  else none
  else none
  else none
  else none
  else none
  else none
  else none
  else none
  else none
  else none
set_option maxHeartbeats 4000000 in
set_option maxRecDepth 20000 in
theorem s_X12_init_c10 (x0 : Nat) (L : List eOp) : Snd true none 0 m_X12_init (f_X12_init_c10 x0 L) cI (361, [(1, .inl ((56 : Int32))), (0, .inr (.inr (x0)))], [], hd L, 38, 12015) := by
  unfold f_X12_init_c10
  refine T_go (S' := (355, [(1, .inl ((57 : Int32))), (0, .inr (.inr (x0)))], [.inr (.inr (x0))], hd L, 38, 12015)) 6 rfl ?_
  refine TI_getR rfl (fun _ => ?_)
  refine T_let (Sf := fun r357 => (358, [(1, .inl ((57 : Int32))), (0, .inr (.inr (x0)))], [.inr (.inr (r357))], hd L, 38, 12015)) (fun r357 => ?_)
  refine T_go (S' := (360, [(1, .inl ((57 : Int32))), (0, .inr (.inr (x0)))], [.inl ((-1 : Int32)), .inl ((57 : Int32)), .inr (.inr (r357))], hd L, 38, 12015)) 2 rfl ?_
  refine TI_iast rfl (fun _ => ?_)
  refine T_let (Sf := fun L358 => (361, [(1, .inl ((57 : Int32))), (0, .inr (.inr (x0)))], [], hd L358, 38, 12015)) (fun L358 => ?_)
  refine T_go (S' := (355, [(1, .inl ((58 : Int32))), (0, .inr (.inr (x0)))], [.inr (.inr (x0))], hd L358, 38, 12015)) 6 rfl ?_
  refine TI_getR rfl (fun _ => ?_)
  refine T_let (Sf := fun r359 => (358, [(1, .inl ((58 : Int32))), (0, .inr (.inr (x0)))], [.inr (.inr (r359))], hd L358, 38, 12015)) (fun r359 => ?_)
  refine T_go (S' := (360, [(1, .inl ((58 : Int32))), (0, .inr (.inr (x0)))], [.inl ((-1 : Int32)), .inl ((58 : Int32)), .inr (.inr (r359))], hd L358, 38, 12015)) 2 rfl ?_
  refine TI_iast rfl (fun _ => ?_)
  refine T_let (Sf := fun L360 => (361, [(1, .inl ((58 : Int32))), (0, .inr (.inr (x0)))], [], hd L360, 38, 12015)) (fun L360 => ?_)
  refine T_go (S' := (355, [(1, .inl ((59 : Int32))), (0, .inr (.inr (x0)))], [.inr (.inr (x0))], hd L360, 38, 12015)) 6 rfl ?_
  refine TI_getR rfl (fun _ => ?_)
  refine T_let (Sf := fun r361 => (358, [(1, .inl ((59 : Int32))), (0, .inr (.inr (x0)))], [.inr (.inr (r361))], hd L360, 38, 12015)) (fun r361 => ?_)
  refine T_go (S' := (360, [(1, .inl ((59 : Int32))), (0, .inr (.inr (x0)))], [.inl ((-1 : Int32)), .inl ((59 : Int32)), .inr (.inr (r361))], hd L360, 38, 12015)) 2 rfl ?_
  refine TI_iast rfl (fun _ => ?_)
  refine T_let (Sf := fun L362 => (361, [(1, .inl ((59 : Int32))), (0, .inr (.inr (x0)))], [], hd L362, 38, 12015)) (fun L362 => ?_)
  refine T_go (S' := (355, [(1, .inl ((60 : Int32))), (0, .inr (.inr (x0)))], [.inr (.inr (x0))], hd L362, 38, 12015)) 6 rfl ?_
  refine TI_getR rfl (fun _ => ?_)
  refine T_let (Sf := fun r363 => (358, [(1, .inl ((60 : Int32))), (0, .inr (.inr (x0)))], [.inr (.inr (r363))], hd L362, 38, 12015)) (fun r363 => ?_)
  refine T_go (S' := (360, [(1, .inl ((60 : Int32))), (0, .inr (.inr (x0)))], [.inl ((-1 : Int32)), .inl ((60 : Int32)), .inr (.inr (r363))], hd L362, 38, 12015)) 2 rfl ?_
  refine TI_iast rfl (fun _ => ?_)
  refine T_let (Sf := fun L364 => (361, [(1, .inl ((60 : Int32))), (0, .inr (.inr (x0)))], [], hd L364, 38, 12015)) (fun L364 => ?_)
  refine T_go (S' := (355, [(1, .inl ((61 : Int32))), (0, .inr (.inr (x0)))], [.inr (.inr (x0))], hd L364, 38, 12015)) 6 rfl ?_
  refine TI_getR rfl (fun _ => ?_)
  refine T_let (Sf := fun r365 => (358, [(1, .inl ((61 : Int32))), (0, .inr (.inr (x0)))], [.inr (.inr (r365))], hd L364, 38, 12015)) (fun r365 => ?_)
  refine T_go (S' := (360, [(1, .inl ((61 : Int32))), (0, .inr (.inr (x0)))], [.inl ((-1 : Int32)), .inl ((61 : Int32)), .inr (.inr (r365))], hd L364, 38, 12015)) 2 rfl ?_
  refine TI_iast rfl (fun _ => ?_)
  refine T_let (Sf := fun L366 => (361, [(1, .inl ((61 : Int32))), (0, .inr (.inr (x0)))], [], hd L366, 38, 12015)) (fun L366 => ?_)
  refine T_go (S' := (355, [(1, .inl ((62 : Int32))), (0, .inr (.inr (x0)))], [.inr (.inr (x0))], hd L366, 38, 12015)) 6 rfl ?_
  refine TI_getR rfl (fun _ => ?_)
  refine T_let (Sf := fun r367 => (358, [(1, .inl ((62 : Int32))), (0, .inr (.inr (x0)))], [.inr (.inr (r367))], hd L366, 38, 12015)) (fun r367 => ?_)
  refine T_go (S' := (360, [(1, .inl ((62 : Int32))), (0, .inr (.inr (x0)))], [.inl ((-1 : Int32)), .inl ((62 : Int32)), .inr (.inr (r367))], hd L366, 38, 12015)) 2 rfl ?_
  refine TI_iast rfl (fun _ => ?_)
  refine T_let (Sf := fun L368 => (361, [(1, .inl ((62 : Int32))), (0, .inr (.inr (x0)))], [], hd L368, 38, 12015)) (fun L368 => ?_)
  refine T_go (S' := (355, [(1, .inl ((63 : Int32))), (0, .inr (.inr (x0)))], [.inr (.inr (x0))], hd L368, 38, 12015)) 6 rfl ?_
  refine TI_getR rfl (fun _ => ?_)
  refine T_let (Sf := fun r369 => (358, [(1, .inl ((63 : Int32))), (0, .inr (.inr (x0)))], [.inr (.inr (r369))], hd L368, 38, 12015)) (fun r369 => ?_)
  refine T_go (S' := (360, [(1, .inl ((63 : Int32))), (0, .inr (.inr (x0)))], [.inl ((-1 : Int32)), .inl ((63 : Int32)), .inr (.inr (r369))], hd L368, 38, 12015)) 2 rfl ?_
  refine TI_iast rfl (fun _ => ?_)
  refine T_let (Sf := fun L370 => (361, [(1, .inl ((63 : Int32))), (0, .inr (.inr (x0)))], [], hd L370, 38, 12015)) (fun L370 => ?_)
  refine T_go (S' := (375, [(1, .inl ((0 : Int32))), (0, .inr (.inr (x0)))], [.inr (.inr (x0))], hd L370, 38, 12015)) 11 rfl ?_
  refine TI_getR rfl (fun _ => ?_)
  refine T_let (Sf := fun r371 => (378, [(1, .inl ((0 : Int32))), (0, .inr (.inr (x0)))], [.inr (.inr (r371))], hd L370, 38, 12015)) (fun r371 => ?_)
  refine T_go (S' := (380, [(1, .inl ((0 : Int32))), (0, .inr (.inr (x0)))], [.inl ((-1 : Int32)), .inl ((0 : Int32)), .inr (.inr (r371))], hd L370, 38, 12015)) 2 rfl ?_
  refine TI_iast rfl (fun _ => ?_)
  refine T_let (Sf := fun L372 => (381, [(1, .inl ((0 : Int32))), (0, .inr (.inr (x0)))], [], hd L372, 38, 12015)) (fun L372 => ?_)
  refine T_go (S' := (375, [(1, .inl ((1 : Int32))), (0, .inr (.inr (x0)))], [.inr (.inr (x0))], hd L372, 38, 12015)) 6 rfl ?_
  refine TI_getR rfl (fun _ => ?_)
  refine T_let (Sf := fun r373 => (378, [(1, .inl ((1 : Int32))), (0, .inr (.inr (x0)))], [.inr (.inr (r373))], hd L372, 38, 12015)) (fun r373 => ?_)
  refine T_go (S' := (380, [(1, .inl ((1 : Int32))), (0, .inr (.inr (x0)))], [.inl ((-1 : Int32)), .inl ((1 : Int32)), .inr (.inr (r373))], hd L372, 38, 12015)) 2 rfl ?_
  refine TI_iast rfl (fun _ => ?_)
  refine T_let (Sf := fun L374 => (381, [(1, .inl ((1 : Int32))), (0, .inr (.inr (x0)))], [], hd L374, 38, 12015)) (fun L374 => ?_)
  refine T_go (S' := (375, [(1, .inl ((2 : Int32))), (0, .inr (.inr (x0)))], [.inr (.inr (x0))], hd L374, 38, 12015)) 6 rfl ?_
  refine TI_getR rfl (fun _ => ?_)
  refine T_let (Sf := fun r375 => (378, [(1, .inl ((2 : Int32))), (0, .inr (.inr (x0)))], [.inr (.inr (r375))], hd L374, 38, 12015)) (fun r375 => ?_)
  refine T_go (S' := (380, [(1, .inl ((2 : Int32))), (0, .inr (.inr (x0)))], [.inl ((-1 : Int32)), .inl ((2 : Int32)), .inr (.inr (r375))], hd L374, 38, 12015)) 2 rfl ?_
  refine TI_iast rfl (fun _ => ?_)
  refine T_let (Sf := fun L376 => (381, [(1, .inl ((2 : Int32))), (0, .inr (.inr (x0)))], [], hd L376, 38, 12015)) (fun L376 => ?_)
  refine T_go (S' := (375, [(1, .inl ((3 : Int32))), (0, .inr (.inr (x0)))], [.inr (.inr (x0))], hd L376, 38, 12015)) 6 rfl ?_
  refine TI_getR rfl (fun _ => ?_)
  refine T_let (Sf := fun r377 => (378, [(1, .inl ((3 : Int32))), (0, .inr (.inr (x0)))], [.inr (.inr (r377))], hd L376, 38, 12015)) (fun r377 => ?_)
  refine T_go (S' := (380, [(1, .inl ((3 : Int32))), (0, .inr (.inr (x0)))], [.inl ((-1 : Int32)), .inl ((3 : Int32)), .inr (.inr (r377))], hd L376, 38, 12015)) 2 rfl ?_
  refine TI_iast rfl (fun _ => ?_)
  refine T_let (Sf := fun L378 => (381, [(1, .inl ((3 : Int32))), (0, .inr (.inr (x0)))], [], hd L378, 38, 12015)) (fun L378 => ?_)
  refine T_go (S' := (387, [(1, .inl ((4 : Int32))), (0, .inr (.inr (x0)))], [], hd L378, 38, 12015)) 5 rfl ?_
  exact T_ret rfl
set_option maxRecDepth 20000 in
def f_X12_init_c9 (x0 : Nat) (L : List eOp) : Option (List eOp) :=
  if ((hd L).2.1 x0).1 = 10 then
  eLet ((hd L).2.2.2.1 x0 19) fun r325 =>
  if ((hd L).2.1 r325).1 = 11 ∧ eix (41 : Int32) ((hd L).2.1 r325).2 = true then
  eLet ((4, r325, 41, 0, (-1 : Int32)) :: L) fun L326 =>
  if ((hd L326).2.1 x0).1 = 10 then
  eLet ((hd L326).2.2.2.1 x0 19) fun r327 =>
  if ((hd L326).2.1 r327).1 = 11 ∧ eix (42 : Int32) ((hd L326).2.1 r327).2 = true then
  eLet ((4, r327, 42, 0, (-1 : Int32)) :: L326) fun L328 =>
  if ((hd L328).2.1 x0).1 = 10 then
  eLet ((hd L328).2.2.2.1 x0 19) fun r329 =>
  if ((hd L328).2.1 r329).1 = 11 ∧ eix (43 : Int32) ((hd L328).2.1 r329).2 = true then
  eLet ((4, r329, 43, 0, (-1 : Int32)) :: L328) fun L330 =>
  if ((hd L330).2.1 x0).1 = 10 then
  eLet ((hd L330).2.2.2.1 x0 19) fun r331 =>
  if ((hd L330).2.1 r331).1 = 11 ∧ eix (44 : Int32) ((hd L330).2.1 r331).2 = true then
  eLet ((4, r331, 44, 0, (-1 : Int32)) :: L330) fun L332 =>
  if ((hd L332).2.1 x0).1 = 10 then
  eLet ((hd L332).2.2.2.1 x0 19) fun r333 =>
  if ((hd L332).2.1 r333).1 = 11 ∧ eix (45 : Int32) ((hd L332).2.1 r333).2 = true then
  eLet ((4, r333, 45, 0, (-1 : Int32)) :: L332) fun L334 =>
  if ((hd L334).2.1 x0).1 = 10 then
  eLet ((hd L334).2.2.2.1 x0 19) fun r335 =>
  if ((hd L334).2.1 r335).1 = 11 ∧ eix (46 : Int32) ((hd L334).2.1 r335).2 = true then
  eLet ((4, r335, 46, 0, (-1 : Int32)) :: L334) fun L336 =>
  if ((hd L336).2.1 x0).1 = 10 then
  eLet ((hd L336).2.2.2.1 x0 19) fun r337 =>
  if ((hd L336).2.1 r337).1 = 11 ∧ eix (47 : Int32) ((hd L336).2.1 r337).2 = true then
  eLet ((4, r337, 47, 0, (-1 : Int32)) :: L336) fun L338 =>
  if ((hd L338).2.1 x0).1 = 10 then
  eLet ((hd L338).2.2.2.1 x0 19) fun r339 =>
  if ((hd L338).2.1 r339).1 = 11 ∧ eix (48 : Int32) ((hd L338).2.1 r339).2 = true then
  eLet ((4, r339, 48, 0, (-1 : Int32)) :: L338) fun L340 =>
  if ((hd L340).2.1 x0).1 = 10 then
  eLet ((hd L340).2.2.2.1 x0 19) fun r341 =>
  if ((hd L340).2.1 r341).1 = 11 ∧ eix (49 : Int32) ((hd L340).2.1 r341).2 = true then
  eLet ((4, r341, 49, 0, (-1 : Int32)) :: L340) fun L342 =>
  if ((hd L342).2.1 x0).1 = 10 then
  eLet ((hd L342).2.2.2.1 x0 19) fun r343 =>
  if ((hd L342).2.1 r343).1 = 11 ∧ eix (50 : Int32) ((hd L342).2.1 r343).2 = true then
  eLet ((4, r343, 50, 0, (-1 : Int32)) :: L342) fun L344 =>
  if ((hd L344).2.1 x0).1 = 10 then
  eLet ((hd L344).2.2.2.1 x0 19) fun r345 =>
  if ((hd L344).2.1 r345).1 = 11 ∧ eix (51 : Int32) ((hd L344).2.1 r345).2 = true then
  eLet ((4, r345, 51, 0, (-1 : Int32)) :: L344) fun L346 =>
  if ((hd L346).2.1 x0).1 = 10 then
  eLet ((hd L346).2.2.2.1 x0 19) fun r347 =>
  if ((hd L346).2.1 r347).1 = 11 ∧ eix (52 : Int32) ((hd L346).2.1 r347).2 = true then
  eLet ((4, r347, 52, 0, (-1 : Int32)) :: L346) fun L348 =>
  if ((hd L348).2.1 x0).1 = 10 then
  eLet ((hd L348).2.2.2.1 x0 19) fun r349 =>
  if ((hd L348).2.1 r349).1 = 11 ∧ eix (53 : Int32) ((hd L348).2.1 r349).2 = true then
  eLet ((4, r349, 53, 0, (-1 : Int32)) :: L348) fun L350 =>
  if ((hd L350).2.1 x0).1 = 10 then
  eLet ((hd L350).2.2.2.1 x0 19) fun r351 =>
  if ((hd L350).2.1 r351).1 = 11 ∧ eix (54 : Int32) ((hd L350).2.1 r351).2 = true then
  eLet ((4, r351, 54, 0, (-1 : Int32)) :: L350) fun L352 =>
  if ((hd L352).2.1 x0).1 = 10 then
  eLet ((hd L352).2.2.2.1 x0 19) fun r353 =>
  if ((hd L352).2.1 r353).1 = 11 ∧ eix (55 : Int32) ((hd L352).2.1 r353).2 = true then
  eLet ((4, r353, 55, 0, (-1 : Int32)) :: L352) fun L354 =>
  if ((hd L354).2.1 x0).1 = 10 then
  eLet ((hd L354).2.2.2.1 x0 19) fun r355 =>
  if ((hd L354).2.1 r355).1 = 11 ∧ eix (56 : Int32) ((hd L354).2.1 r355).2 = true then
  eLet ((4, r355, 56, 0, (-1 : Int32)) :: L354) fun L356 =>
  f_X12_init_c10 x0 L356
  else none
  else none
  else none
  else none
  else none
  else none
  else none
  else none
  else none
  else none
  else none
  else none
  else none
  else none
  else none
  else none
  else none
  else none
  else none
  else none
  else none
  else none
  else none
  else none
  else none
  else none
  else none
  else none
  else none
  else none
  else none
  else none
set_option maxHeartbeats 4000000 in
set_option maxRecDepth 20000 in
theorem s_X12_init_c9 (x0 : Nat) (L : List eOp) : Snd true none 0 m_X12_init (f_X12_init_c9 x0 L) cI (361, [(1, .inl ((40 : Int32))), (0, .inr (.inr (x0)))], [], hd L, 38, 12015) := by
  unfold f_X12_init_c9
  refine T_go (S' := (355, [(1, .inl ((41 : Int32))), (0, .inr (.inr (x0)))], [.inr (.inr (x0))], hd L, 38, 12015)) 6 rfl ?_
  refine TI_getR rfl (fun _ => ?_)
  refine T_let (Sf := fun r325 => (358, [(1, .inl ((41 : Int32))), (0, .inr (.inr (x0)))], [.inr (.inr (r325))], hd L, 38, 12015)) (fun r325 => ?_)
  refine T_go (S' := (360, [(1, .inl ((41 : Int32))), (0, .inr (.inr (x0)))], [.inl ((-1 : Int32)), .inl ((41 : Int32)), .inr (.inr (r325))], hd L, 38, 12015)) 2 rfl ?_
  refine TI_iast rfl (fun _ => ?_)
  refine T_let (Sf := fun L326 => (361, [(1, .inl ((41 : Int32))), (0, .inr (.inr (x0)))], [], hd L326, 38, 12015)) (fun L326 => ?_)
  refine T_go (S' := (355, [(1, .inl ((42 : Int32))), (0, .inr (.inr (x0)))], [.inr (.inr (x0))], hd L326, 38, 12015)) 6 rfl ?_
  refine TI_getR rfl (fun _ => ?_)
  refine T_let (Sf := fun r327 => (358, [(1, .inl ((42 : Int32))), (0, .inr (.inr (x0)))], [.inr (.inr (r327))], hd L326, 38, 12015)) (fun r327 => ?_)
  refine T_go (S' := (360, [(1, .inl ((42 : Int32))), (0, .inr (.inr (x0)))], [.inl ((-1 : Int32)), .inl ((42 : Int32)), .inr (.inr (r327))], hd L326, 38, 12015)) 2 rfl ?_
  refine TI_iast rfl (fun _ => ?_)
  refine T_let (Sf := fun L328 => (361, [(1, .inl ((42 : Int32))), (0, .inr (.inr (x0)))], [], hd L328, 38, 12015)) (fun L328 => ?_)
  refine T_go (S' := (355, [(1, .inl ((43 : Int32))), (0, .inr (.inr (x0)))], [.inr (.inr (x0))], hd L328, 38, 12015)) 6 rfl ?_
  refine TI_getR rfl (fun _ => ?_)
  refine T_let (Sf := fun r329 => (358, [(1, .inl ((43 : Int32))), (0, .inr (.inr (x0)))], [.inr (.inr (r329))], hd L328, 38, 12015)) (fun r329 => ?_)
  refine T_go (S' := (360, [(1, .inl ((43 : Int32))), (0, .inr (.inr (x0)))], [.inl ((-1 : Int32)), .inl ((43 : Int32)), .inr (.inr (r329))], hd L328, 38, 12015)) 2 rfl ?_
  refine TI_iast rfl (fun _ => ?_)
  refine T_let (Sf := fun L330 => (361, [(1, .inl ((43 : Int32))), (0, .inr (.inr (x0)))], [], hd L330, 38, 12015)) (fun L330 => ?_)
  refine T_go (S' := (355, [(1, .inl ((44 : Int32))), (0, .inr (.inr (x0)))], [.inr (.inr (x0))], hd L330, 38, 12015)) 6 rfl ?_
  refine TI_getR rfl (fun _ => ?_)
  refine T_let (Sf := fun r331 => (358, [(1, .inl ((44 : Int32))), (0, .inr (.inr (x0)))], [.inr (.inr (r331))], hd L330, 38, 12015)) (fun r331 => ?_)
  refine T_go (S' := (360, [(1, .inl ((44 : Int32))), (0, .inr (.inr (x0)))], [.inl ((-1 : Int32)), .inl ((44 : Int32)), .inr (.inr (r331))], hd L330, 38, 12015)) 2 rfl ?_
  refine TI_iast rfl (fun _ => ?_)
  refine T_let (Sf := fun L332 => (361, [(1, .inl ((44 : Int32))), (0, .inr (.inr (x0)))], [], hd L332, 38, 12015)) (fun L332 => ?_)
  refine T_go (S' := (355, [(1, .inl ((45 : Int32))), (0, .inr (.inr (x0)))], [.inr (.inr (x0))], hd L332, 38, 12015)) 6 rfl ?_
  refine TI_getR rfl (fun _ => ?_)
  refine T_let (Sf := fun r333 => (358, [(1, .inl ((45 : Int32))), (0, .inr (.inr (x0)))], [.inr (.inr (r333))], hd L332, 38, 12015)) (fun r333 => ?_)
  refine T_go (S' := (360, [(1, .inl ((45 : Int32))), (0, .inr (.inr (x0)))], [.inl ((-1 : Int32)), .inl ((45 : Int32)), .inr (.inr (r333))], hd L332, 38, 12015)) 2 rfl ?_
  refine TI_iast rfl (fun _ => ?_)
  refine T_let (Sf := fun L334 => (361, [(1, .inl ((45 : Int32))), (0, .inr (.inr (x0)))], [], hd L334, 38, 12015)) (fun L334 => ?_)
  refine T_go (S' := (355, [(1, .inl ((46 : Int32))), (0, .inr (.inr (x0)))], [.inr (.inr (x0))], hd L334, 38, 12015)) 6 rfl ?_
  refine TI_getR rfl (fun _ => ?_)
  refine T_let (Sf := fun r335 => (358, [(1, .inl ((46 : Int32))), (0, .inr (.inr (x0)))], [.inr (.inr (r335))], hd L334, 38, 12015)) (fun r335 => ?_)
  refine T_go (S' := (360, [(1, .inl ((46 : Int32))), (0, .inr (.inr (x0)))], [.inl ((-1 : Int32)), .inl ((46 : Int32)), .inr (.inr (r335))], hd L334, 38, 12015)) 2 rfl ?_
  refine TI_iast rfl (fun _ => ?_)
  refine T_let (Sf := fun L336 => (361, [(1, .inl ((46 : Int32))), (0, .inr (.inr (x0)))], [], hd L336, 38, 12015)) (fun L336 => ?_)
  refine T_go (S' := (355, [(1, .inl ((47 : Int32))), (0, .inr (.inr (x0)))], [.inr (.inr (x0))], hd L336, 38, 12015)) 6 rfl ?_
  refine TI_getR rfl (fun _ => ?_)
  refine T_let (Sf := fun r337 => (358, [(1, .inl ((47 : Int32))), (0, .inr (.inr (x0)))], [.inr (.inr (r337))], hd L336, 38, 12015)) (fun r337 => ?_)
  refine T_go (S' := (360, [(1, .inl ((47 : Int32))), (0, .inr (.inr (x0)))], [.inl ((-1 : Int32)), .inl ((47 : Int32)), .inr (.inr (r337))], hd L336, 38, 12015)) 2 rfl ?_
  refine TI_iast rfl (fun _ => ?_)
  refine T_let (Sf := fun L338 => (361, [(1, .inl ((47 : Int32))), (0, .inr (.inr (x0)))], [], hd L338, 38, 12015)) (fun L338 => ?_)
  refine T_go (S' := (355, [(1, .inl ((48 : Int32))), (0, .inr (.inr (x0)))], [.inr (.inr (x0))], hd L338, 38, 12015)) 6 rfl ?_
  refine TI_getR rfl (fun _ => ?_)
  refine T_let (Sf := fun r339 => (358, [(1, .inl ((48 : Int32))), (0, .inr (.inr (x0)))], [.inr (.inr (r339))], hd L338, 38, 12015)) (fun r339 => ?_)
  refine T_go (S' := (360, [(1, .inl ((48 : Int32))), (0, .inr (.inr (x0)))], [.inl ((-1 : Int32)), .inl ((48 : Int32)), .inr (.inr (r339))], hd L338, 38, 12015)) 2 rfl ?_
  refine TI_iast rfl (fun _ => ?_)
  refine T_let (Sf := fun L340 => (361, [(1, .inl ((48 : Int32))), (0, .inr (.inr (x0)))], [], hd L340, 38, 12015)) (fun L340 => ?_)
  refine T_go (S' := (355, [(1, .inl ((49 : Int32))), (0, .inr (.inr (x0)))], [.inr (.inr (x0))], hd L340, 38, 12015)) 6 rfl ?_
  refine TI_getR rfl (fun _ => ?_)
  refine T_let (Sf := fun r341 => (358, [(1, .inl ((49 : Int32))), (0, .inr (.inr (x0)))], [.inr (.inr (r341))], hd L340, 38, 12015)) (fun r341 => ?_)
  refine T_go (S' := (360, [(1, .inl ((49 : Int32))), (0, .inr (.inr (x0)))], [.inl ((-1 : Int32)), .inl ((49 : Int32)), .inr (.inr (r341))], hd L340, 38, 12015)) 2 rfl ?_
  refine TI_iast rfl (fun _ => ?_)
  refine T_let (Sf := fun L342 => (361, [(1, .inl ((49 : Int32))), (0, .inr (.inr (x0)))], [], hd L342, 38, 12015)) (fun L342 => ?_)
  refine T_go (S' := (355, [(1, .inl ((50 : Int32))), (0, .inr (.inr (x0)))], [.inr (.inr (x0))], hd L342, 38, 12015)) 6 rfl ?_
  refine TI_getR rfl (fun _ => ?_)
  refine T_let (Sf := fun r343 => (358, [(1, .inl ((50 : Int32))), (0, .inr (.inr (x0)))], [.inr (.inr (r343))], hd L342, 38, 12015)) (fun r343 => ?_)
  refine T_go (S' := (360, [(1, .inl ((50 : Int32))), (0, .inr (.inr (x0)))], [.inl ((-1 : Int32)), .inl ((50 : Int32)), .inr (.inr (r343))], hd L342, 38, 12015)) 2 rfl ?_
  refine TI_iast rfl (fun _ => ?_)
  refine T_let (Sf := fun L344 => (361, [(1, .inl ((50 : Int32))), (0, .inr (.inr (x0)))], [], hd L344, 38, 12015)) (fun L344 => ?_)
  refine T_go (S' := (355, [(1, .inl ((51 : Int32))), (0, .inr (.inr (x0)))], [.inr (.inr (x0))], hd L344, 38, 12015)) 6 rfl ?_
  refine TI_getR rfl (fun _ => ?_)
  refine T_let (Sf := fun r345 => (358, [(1, .inl ((51 : Int32))), (0, .inr (.inr (x0)))], [.inr (.inr (r345))], hd L344, 38, 12015)) (fun r345 => ?_)
  refine T_go (S' := (360, [(1, .inl ((51 : Int32))), (0, .inr (.inr (x0)))], [.inl ((-1 : Int32)), .inl ((51 : Int32)), .inr (.inr (r345))], hd L344, 38, 12015)) 2 rfl ?_
  refine TI_iast rfl (fun _ => ?_)
  refine T_let (Sf := fun L346 => (361, [(1, .inl ((51 : Int32))), (0, .inr (.inr (x0)))], [], hd L346, 38, 12015)) (fun L346 => ?_)
  refine T_go (S' := (355, [(1, .inl ((52 : Int32))), (0, .inr (.inr (x0)))], [.inr (.inr (x0))], hd L346, 38, 12015)) 6 rfl ?_
  refine TI_getR rfl (fun _ => ?_)
  refine T_let (Sf := fun r347 => (358, [(1, .inl ((52 : Int32))), (0, .inr (.inr (x0)))], [.inr (.inr (r347))], hd L346, 38, 12015)) (fun r347 => ?_)
  refine T_go (S' := (360, [(1, .inl ((52 : Int32))), (0, .inr (.inr (x0)))], [.inl ((-1 : Int32)), .inl ((52 : Int32)), .inr (.inr (r347))], hd L346, 38, 12015)) 2 rfl ?_
  refine TI_iast rfl (fun _ => ?_)
  refine T_let (Sf := fun L348 => (361, [(1, .inl ((52 : Int32))), (0, .inr (.inr (x0)))], [], hd L348, 38, 12015)) (fun L348 => ?_)
  refine T_go (S' := (355, [(1, .inl ((53 : Int32))), (0, .inr (.inr (x0)))], [.inr (.inr (x0))], hd L348, 38, 12015)) 6 rfl ?_
  refine TI_getR rfl (fun _ => ?_)
  refine T_let (Sf := fun r349 => (358, [(1, .inl ((53 : Int32))), (0, .inr (.inr (x0)))], [.inr (.inr (r349))], hd L348, 38, 12015)) (fun r349 => ?_)
  refine T_go (S' := (360, [(1, .inl ((53 : Int32))), (0, .inr (.inr (x0)))], [.inl ((-1 : Int32)), .inl ((53 : Int32)), .inr (.inr (r349))], hd L348, 38, 12015)) 2 rfl ?_
  refine TI_iast rfl (fun _ => ?_)
  refine T_let (Sf := fun L350 => (361, [(1, .inl ((53 : Int32))), (0, .inr (.inr (x0)))], [], hd L350, 38, 12015)) (fun L350 => ?_)
  refine T_go (S' := (355, [(1, .inl ((54 : Int32))), (0, .inr (.inr (x0)))], [.inr (.inr (x0))], hd L350, 38, 12015)) 6 rfl ?_
  refine TI_getR rfl (fun _ => ?_)
  refine T_let (Sf := fun r351 => (358, [(1, .inl ((54 : Int32))), (0, .inr (.inr (x0)))], [.inr (.inr (r351))], hd L350, 38, 12015)) (fun r351 => ?_)
  refine T_go (S' := (360, [(1, .inl ((54 : Int32))), (0, .inr (.inr (x0)))], [.inl ((-1 : Int32)), .inl ((54 : Int32)), .inr (.inr (r351))], hd L350, 38, 12015)) 2 rfl ?_
  refine TI_iast rfl (fun _ => ?_)
  refine T_let (Sf := fun L352 => (361, [(1, .inl ((54 : Int32))), (0, .inr (.inr (x0)))], [], hd L352, 38, 12015)) (fun L352 => ?_)
  refine T_go (S' := (355, [(1, .inl ((55 : Int32))), (0, .inr (.inr (x0)))], [.inr (.inr (x0))], hd L352, 38, 12015)) 6 rfl ?_
  refine TI_getR rfl (fun _ => ?_)
  refine T_let (Sf := fun r353 => (358, [(1, .inl ((55 : Int32))), (0, .inr (.inr (x0)))], [.inr (.inr (r353))], hd L352, 38, 12015)) (fun r353 => ?_)
  refine T_go (S' := (360, [(1, .inl ((55 : Int32))), (0, .inr (.inr (x0)))], [.inl ((-1 : Int32)), .inl ((55 : Int32)), .inr (.inr (r353))], hd L352, 38, 12015)) 2 rfl ?_
  refine TI_iast rfl (fun _ => ?_)
  refine T_let (Sf := fun L354 => (361, [(1, .inl ((55 : Int32))), (0, .inr (.inr (x0)))], [], hd L354, 38, 12015)) (fun L354 => ?_)
  refine T_go (S' := (355, [(1, .inl ((56 : Int32))), (0, .inr (.inr (x0)))], [.inr (.inr (x0))], hd L354, 38, 12015)) 6 rfl ?_
  refine TI_getR rfl (fun _ => ?_)
  refine T_let (Sf := fun r355 => (358, [(1, .inl ((56 : Int32))), (0, .inr (.inr (x0)))], [.inr (.inr (r355))], hd L354, 38, 12015)) (fun r355 => ?_)
  refine T_go (S' := (360, [(1, .inl ((56 : Int32))), (0, .inr (.inr (x0)))], [.inl ((-1 : Int32)), .inl ((56 : Int32)), .inr (.inr (r355))], hd L354, 38, 12015)) 2 rfl ?_
  refine TI_iast rfl (fun _ => ?_)
  refine T_let (Sf := fun L356 => (361, [(1, .inl ((56 : Int32))), (0, .inr (.inr (x0)))], [], hd L356, 38, 12015)) (fun L356 => ?_)
  exact s_X12_init_c10 x0 L356
set_option maxRecDepth 20000 in
def f_X12_init_c8 (x0 : Nat) (L : List eOp) : Option (List eOp) :=
  if ((hd L).2.1 x0).1 = 10 then
  eLet ((hd L).2.2.2.1 x0 19) fun r293 =>
  if ((hd L).2.1 r293).1 = 11 ∧ eix (25 : Int32) ((hd L).2.1 r293).2 = true then
  eLet ((4, r293, 25, 0, (-1 : Int32)) :: L) fun L294 =>
  if ((hd L294).2.1 x0).1 = 10 then
  eLet ((hd L294).2.2.2.1 x0 19) fun r295 =>
  if ((hd L294).2.1 r295).1 = 11 ∧ eix (26 : Int32) ((hd L294).2.1 r295).2 = true then
  eLet ((4, r295, 26, 0, (-1 : Int32)) :: L294) fun L296 =>
  if ((hd L296).2.1 x0).1 = 10 then
  eLet ((hd L296).2.2.2.1 x0 19) fun r297 =>
  if ((hd L296).2.1 r297).1 = 11 ∧ eix (27 : Int32) ((hd L296).2.1 r297).2 = true then
  eLet ((4, r297, 27, 0, (-1 : Int32)) :: L296) fun L298 =>
  if ((hd L298).2.1 x0).1 = 10 then
  eLet ((hd L298).2.2.2.1 x0 19) fun r299 =>
  if ((hd L298).2.1 r299).1 = 11 ∧ eix (28 : Int32) ((hd L298).2.1 r299).2 = true then
  eLet ((4, r299, 28, 0, (-1 : Int32)) :: L298) fun L300 =>
  if ((hd L300).2.1 x0).1 = 10 then
  eLet ((hd L300).2.2.2.1 x0 19) fun r301 =>
  if ((hd L300).2.1 r301).1 = 11 ∧ eix (29 : Int32) ((hd L300).2.1 r301).2 = true then
  eLet ((4, r301, 29, 0, (-1 : Int32)) :: L300) fun L302 =>
  if ((hd L302).2.1 x0).1 = 10 then
  eLet ((hd L302).2.2.2.1 x0 19) fun r303 =>
  if ((hd L302).2.1 r303).1 = 11 ∧ eix (30 : Int32) ((hd L302).2.1 r303).2 = true then
  eLet ((4, r303, 30, 0, (-1 : Int32)) :: L302) fun L304 =>
  if ((hd L304).2.1 x0).1 = 10 then
  eLet ((hd L304).2.2.2.1 x0 19) fun r305 =>
  if ((hd L304).2.1 r305).1 = 11 ∧ eix (31 : Int32) ((hd L304).2.1 r305).2 = true then
  eLet ((4, r305, 31, 0, (-1 : Int32)) :: L304) fun L306 =>
  if ((hd L306).2.1 x0).1 = 10 then
  eLet ((hd L306).2.2.2.1 x0 19) fun r307 =>
  if ((hd L306).2.1 r307).1 = 11 ∧ eix (32 : Int32) ((hd L306).2.1 r307).2 = true then
  eLet ((4, r307, 32, 0, (-1 : Int32)) :: L306) fun L308 =>
  if ((hd L308).2.1 x0).1 = 10 then
  eLet ((hd L308).2.2.2.1 x0 19) fun r309 =>
  if ((hd L308).2.1 r309).1 = 11 ∧ eix (33 : Int32) ((hd L308).2.1 r309).2 = true then
  eLet ((4, r309, 33, 0, (-1 : Int32)) :: L308) fun L310 =>
  if ((hd L310).2.1 x0).1 = 10 then
  eLet ((hd L310).2.2.2.1 x0 19) fun r311 =>
  if ((hd L310).2.1 r311).1 = 11 ∧ eix (34 : Int32) ((hd L310).2.1 r311).2 = true then
  eLet ((4, r311, 34, 0, (-1 : Int32)) :: L310) fun L312 =>
  if ((hd L312).2.1 x0).1 = 10 then
  eLet ((hd L312).2.2.2.1 x0 19) fun r313 =>
  if ((hd L312).2.1 r313).1 = 11 ∧ eix (35 : Int32) ((hd L312).2.1 r313).2 = true then
  eLet ((4, r313, 35, 0, (-1 : Int32)) :: L312) fun L314 =>
  if ((hd L314).2.1 x0).1 = 10 then
  eLet ((hd L314).2.2.2.1 x0 19) fun r315 =>
  if ((hd L314).2.1 r315).1 = 11 ∧ eix (36 : Int32) ((hd L314).2.1 r315).2 = true then
  eLet ((4, r315, 36, 0, (-1 : Int32)) :: L314) fun L316 =>
  if ((hd L316).2.1 x0).1 = 10 then
  eLet ((hd L316).2.2.2.1 x0 19) fun r317 =>
  if ((hd L316).2.1 r317).1 = 11 ∧ eix (37 : Int32) ((hd L316).2.1 r317).2 = true then
  eLet ((4, r317, 37, 0, (-1 : Int32)) :: L316) fun L318 =>
  if ((hd L318).2.1 x0).1 = 10 then
  eLet ((hd L318).2.2.2.1 x0 19) fun r319 =>
  if ((hd L318).2.1 r319).1 = 11 ∧ eix (38 : Int32) ((hd L318).2.1 r319).2 = true then
  eLet ((4, r319, 38, 0, (-1 : Int32)) :: L318) fun L320 =>
  if ((hd L320).2.1 x0).1 = 10 then
  eLet ((hd L320).2.2.2.1 x0 19) fun r321 =>
  if ((hd L320).2.1 r321).1 = 11 ∧ eix (39 : Int32) ((hd L320).2.1 r321).2 = true then
  eLet ((4, r321, 39, 0, (-1 : Int32)) :: L320) fun L322 =>
  if ((hd L322).2.1 x0).1 = 10 then
  eLet ((hd L322).2.2.2.1 x0 19) fun r323 =>
  if ((hd L322).2.1 r323).1 = 11 ∧ eix (40 : Int32) ((hd L322).2.1 r323).2 = true then
  eLet ((4, r323, 40, 0, (-1 : Int32)) :: L322) fun L324 =>
  f_X12_init_c9 x0 L324
  else none
  else none
  else none
  else none
  else none
  else none
  else none
  else none
  else none
  else none
  else none
  else none
  else none
  else none
  else none
  else none
  else none
  else none
  else none
  else none
  else none
  else none
  else none
  else none
  else none
  else none
  else none
  else none
  else none
  else none
  else none
  else none
set_option maxHeartbeats 4000000 in
set_option maxRecDepth 20000 in
theorem s_X12_init_c8 (x0 : Nat) (L : List eOp) : Snd true none 0 m_X12_init (f_X12_init_c8 x0 L) cI (361, [(1, .inl ((24 : Int32))), (0, .inr (.inr (x0)))], [], hd L, 38, 12015) := by
  unfold f_X12_init_c8
  refine T_go (S' := (355, [(1, .inl ((25 : Int32))), (0, .inr (.inr (x0)))], [.inr (.inr (x0))], hd L, 38, 12015)) 6 rfl ?_
  refine TI_getR rfl (fun _ => ?_)
  refine T_let (Sf := fun r293 => (358, [(1, .inl ((25 : Int32))), (0, .inr (.inr (x0)))], [.inr (.inr (r293))], hd L, 38, 12015)) (fun r293 => ?_)
  refine T_go (S' := (360, [(1, .inl ((25 : Int32))), (0, .inr (.inr (x0)))], [.inl ((-1 : Int32)), .inl ((25 : Int32)), .inr (.inr (r293))], hd L, 38, 12015)) 2 rfl ?_
  refine TI_iast rfl (fun _ => ?_)
  refine T_let (Sf := fun L294 => (361, [(1, .inl ((25 : Int32))), (0, .inr (.inr (x0)))], [], hd L294, 38, 12015)) (fun L294 => ?_)
  refine T_go (S' := (355, [(1, .inl ((26 : Int32))), (0, .inr (.inr (x0)))], [.inr (.inr (x0))], hd L294, 38, 12015)) 6 rfl ?_
  refine TI_getR rfl (fun _ => ?_)
  refine T_let (Sf := fun r295 => (358, [(1, .inl ((26 : Int32))), (0, .inr (.inr (x0)))], [.inr (.inr (r295))], hd L294, 38, 12015)) (fun r295 => ?_)
  refine T_go (S' := (360, [(1, .inl ((26 : Int32))), (0, .inr (.inr (x0)))], [.inl ((-1 : Int32)), .inl ((26 : Int32)), .inr (.inr (r295))], hd L294, 38, 12015)) 2 rfl ?_
  refine TI_iast rfl (fun _ => ?_)
  refine T_let (Sf := fun L296 => (361, [(1, .inl ((26 : Int32))), (0, .inr (.inr (x0)))], [], hd L296, 38, 12015)) (fun L296 => ?_)
  refine T_go (S' := (355, [(1, .inl ((27 : Int32))), (0, .inr (.inr (x0)))], [.inr (.inr (x0))], hd L296, 38, 12015)) 6 rfl ?_
  refine TI_getR rfl (fun _ => ?_)
  refine T_let (Sf := fun r297 => (358, [(1, .inl ((27 : Int32))), (0, .inr (.inr (x0)))], [.inr (.inr (r297))], hd L296, 38, 12015)) (fun r297 => ?_)
  refine T_go (S' := (360, [(1, .inl ((27 : Int32))), (0, .inr (.inr (x0)))], [.inl ((-1 : Int32)), .inl ((27 : Int32)), .inr (.inr (r297))], hd L296, 38, 12015)) 2 rfl ?_
  refine TI_iast rfl (fun _ => ?_)
  refine T_let (Sf := fun L298 => (361, [(1, .inl ((27 : Int32))), (0, .inr (.inr (x0)))], [], hd L298, 38, 12015)) (fun L298 => ?_)
  refine T_go (S' := (355, [(1, .inl ((28 : Int32))), (0, .inr (.inr (x0)))], [.inr (.inr (x0))], hd L298, 38, 12015)) 6 rfl ?_
  refine TI_getR rfl (fun _ => ?_)
  refine T_let (Sf := fun r299 => (358, [(1, .inl ((28 : Int32))), (0, .inr (.inr (x0)))], [.inr (.inr (r299))], hd L298, 38, 12015)) (fun r299 => ?_)
  refine T_go (S' := (360, [(1, .inl ((28 : Int32))), (0, .inr (.inr (x0)))], [.inl ((-1 : Int32)), .inl ((28 : Int32)), .inr (.inr (r299))], hd L298, 38, 12015)) 2 rfl ?_
  refine TI_iast rfl (fun _ => ?_)
  refine T_let (Sf := fun L300 => (361, [(1, .inl ((28 : Int32))), (0, .inr (.inr (x0)))], [], hd L300, 38, 12015)) (fun L300 => ?_)
  refine T_go (S' := (355, [(1, .inl ((29 : Int32))), (0, .inr (.inr (x0)))], [.inr (.inr (x0))], hd L300, 38, 12015)) 6 rfl ?_
  refine TI_getR rfl (fun _ => ?_)
  refine T_let (Sf := fun r301 => (358, [(1, .inl ((29 : Int32))), (0, .inr (.inr (x0)))], [.inr (.inr (r301))], hd L300, 38, 12015)) (fun r301 => ?_)
  refine T_go (S' := (360, [(1, .inl ((29 : Int32))), (0, .inr (.inr (x0)))], [.inl ((-1 : Int32)), .inl ((29 : Int32)), .inr (.inr (r301))], hd L300, 38, 12015)) 2 rfl ?_
  refine TI_iast rfl (fun _ => ?_)
  refine T_let (Sf := fun L302 => (361, [(1, .inl ((29 : Int32))), (0, .inr (.inr (x0)))], [], hd L302, 38, 12015)) (fun L302 => ?_)
  refine T_go (S' := (355, [(1, .inl ((30 : Int32))), (0, .inr (.inr (x0)))], [.inr (.inr (x0))], hd L302, 38, 12015)) 6 rfl ?_
  refine TI_getR rfl (fun _ => ?_)
  refine T_let (Sf := fun r303 => (358, [(1, .inl ((30 : Int32))), (0, .inr (.inr (x0)))], [.inr (.inr (r303))], hd L302, 38, 12015)) (fun r303 => ?_)
  refine T_go (S' := (360, [(1, .inl ((30 : Int32))), (0, .inr (.inr (x0)))], [.inl ((-1 : Int32)), .inl ((30 : Int32)), .inr (.inr (r303))], hd L302, 38, 12015)) 2 rfl ?_
  refine TI_iast rfl (fun _ => ?_)
  refine T_let (Sf := fun L304 => (361, [(1, .inl ((30 : Int32))), (0, .inr (.inr (x0)))], [], hd L304, 38, 12015)) (fun L304 => ?_)
  refine T_go (S' := (355, [(1, .inl ((31 : Int32))), (0, .inr (.inr (x0)))], [.inr (.inr (x0))], hd L304, 38, 12015)) 6 rfl ?_
  refine TI_getR rfl (fun _ => ?_)
  refine T_let (Sf := fun r305 => (358, [(1, .inl ((31 : Int32))), (0, .inr (.inr (x0)))], [.inr (.inr (r305))], hd L304, 38, 12015)) (fun r305 => ?_)
  refine T_go (S' := (360, [(1, .inl ((31 : Int32))), (0, .inr (.inr (x0)))], [.inl ((-1 : Int32)), .inl ((31 : Int32)), .inr (.inr (r305))], hd L304, 38, 12015)) 2 rfl ?_
  refine TI_iast rfl (fun _ => ?_)
  refine T_let (Sf := fun L306 => (361, [(1, .inl ((31 : Int32))), (0, .inr (.inr (x0)))], [], hd L306, 38, 12015)) (fun L306 => ?_)
  refine T_go (S' := (355, [(1, .inl ((32 : Int32))), (0, .inr (.inr (x0)))], [.inr (.inr (x0))], hd L306, 38, 12015)) 6 rfl ?_
  refine TI_getR rfl (fun _ => ?_)
  refine T_let (Sf := fun r307 => (358, [(1, .inl ((32 : Int32))), (0, .inr (.inr (x0)))], [.inr (.inr (r307))], hd L306, 38, 12015)) (fun r307 => ?_)
  refine T_go (S' := (360, [(1, .inl ((32 : Int32))), (0, .inr (.inr (x0)))], [.inl ((-1 : Int32)), .inl ((32 : Int32)), .inr (.inr (r307))], hd L306, 38, 12015)) 2 rfl ?_
  refine TI_iast rfl (fun _ => ?_)
  refine T_let (Sf := fun L308 => (361, [(1, .inl ((32 : Int32))), (0, .inr (.inr (x0)))], [], hd L308, 38, 12015)) (fun L308 => ?_)
  refine T_go (S' := (355, [(1, .inl ((33 : Int32))), (0, .inr (.inr (x0)))], [.inr (.inr (x0))], hd L308, 38, 12015)) 6 rfl ?_
  refine TI_getR rfl (fun _ => ?_)
  refine T_let (Sf := fun r309 => (358, [(1, .inl ((33 : Int32))), (0, .inr (.inr (x0)))], [.inr (.inr (r309))], hd L308, 38, 12015)) (fun r309 => ?_)
  refine T_go (S' := (360, [(1, .inl ((33 : Int32))), (0, .inr (.inr (x0)))], [.inl ((-1 : Int32)), .inl ((33 : Int32)), .inr (.inr (r309))], hd L308, 38, 12015)) 2 rfl ?_
  refine TI_iast rfl (fun _ => ?_)
  refine T_let (Sf := fun L310 => (361, [(1, .inl ((33 : Int32))), (0, .inr (.inr (x0)))], [], hd L310, 38, 12015)) (fun L310 => ?_)
  refine T_go (S' := (355, [(1, .inl ((34 : Int32))), (0, .inr (.inr (x0)))], [.inr (.inr (x0))], hd L310, 38, 12015)) 6 rfl ?_
  refine TI_getR rfl (fun _ => ?_)
  refine T_let (Sf := fun r311 => (358, [(1, .inl ((34 : Int32))), (0, .inr (.inr (x0)))], [.inr (.inr (r311))], hd L310, 38, 12015)) (fun r311 => ?_)
  refine T_go (S' := (360, [(1, .inl ((34 : Int32))), (0, .inr (.inr (x0)))], [.inl ((-1 : Int32)), .inl ((34 : Int32)), .inr (.inr (r311))], hd L310, 38, 12015)) 2 rfl ?_
  refine TI_iast rfl (fun _ => ?_)
  refine T_let (Sf := fun L312 => (361, [(1, .inl ((34 : Int32))), (0, .inr (.inr (x0)))], [], hd L312, 38, 12015)) (fun L312 => ?_)
  refine T_go (S' := (355, [(1, .inl ((35 : Int32))), (0, .inr (.inr (x0)))], [.inr (.inr (x0))], hd L312, 38, 12015)) 6 rfl ?_
  refine TI_getR rfl (fun _ => ?_)
  refine T_let (Sf := fun r313 => (358, [(1, .inl ((35 : Int32))), (0, .inr (.inr (x0)))], [.inr (.inr (r313))], hd L312, 38, 12015)) (fun r313 => ?_)
  refine T_go (S' := (360, [(1, .inl ((35 : Int32))), (0, .inr (.inr (x0)))], [.inl ((-1 : Int32)), .inl ((35 : Int32)), .inr (.inr (r313))], hd L312, 38, 12015)) 2 rfl ?_
  refine TI_iast rfl (fun _ => ?_)
  refine T_let (Sf := fun L314 => (361, [(1, .inl ((35 : Int32))), (0, .inr (.inr (x0)))], [], hd L314, 38, 12015)) (fun L314 => ?_)
  refine T_go (S' := (355, [(1, .inl ((36 : Int32))), (0, .inr (.inr (x0)))], [.inr (.inr (x0))], hd L314, 38, 12015)) 6 rfl ?_
  refine TI_getR rfl (fun _ => ?_)
  refine T_let (Sf := fun r315 => (358, [(1, .inl ((36 : Int32))), (0, .inr (.inr (x0)))], [.inr (.inr (r315))], hd L314, 38, 12015)) (fun r315 => ?_)
  refine T_go (S' := (360, [(1, .inl ((36 : Int32))), (0, .inr (.inr (x0)))], [.inl ((-1 : Int32)), .inl ((36 : Int32)), .inr (.inr (r315))], hd L314, 38, 12015)) 2 rfl ?_
  refine TI_iast rfl (fun _ => ?_)
  refine T_let (Sf := fun L316 => (361, [(1, .inl ((36 : Int32))), (0, .inr (.inr (x0)))], [], hd L316, 38, 12015)) (fun L316 => ?_)
  refine T_go (S' := (355, [(1, .inl ((37 : Int32))), (0, .inr (.inr (x0)))], [.inr (.inr (x0))], hd L316, 38, 12015)) 6 rfl ?_
  refine TI_getR rfl (fun _ => ?_)
  refine T_let (Sf := fun r317 => (358, [(1, .inl ((37 : Int32))), (0, .inr (.inr (x0)))], [.inr (.inr (r317))], hd L316, 38, 12015)) (fun r317 => ?_)
  refine T_go (S' := (360, [(1, .inl ((37 : Int32))), (0, .inr (.inr (x0)))], [.inl ((-1 : Int32)), .inl ((37 : Int32)), .inr (.inr (r317))], hd L316, 38, 12015)) 2 rfl ?_
  refine TI_iast rfl (fun _ => ?_)
  refine T_let (Sf := fun L318 => (361, [(1, .inl ((37 : Int32))), (0, .inr (.inr (x0)))], [], hd L318, 38, 12015)) (fun L318 => ?_)
  refine T_go (S' := (355, [(1, .inl ((38 : Int32))), (0, .inr (.inr (x0)))], [.inr (.inr (x0))], hd L318, 38, 12015)) 6 rfl ?_
  refine TI_getR rfl (fun _ => ?_)
  refine T_let (Sf := fun r319 => (358, [(1, .inl ((38 : Int32))), (0, .inr (.inr (x0)))], [.inr (.inr (r319))], hd L318, 38, 12015)) (fun r319 => ?_)
  refine T_go (S' := (360, [(1, .inl ((38 : Int32))), (0, .inr (.inr (x0)))], [.inl ((-1 : Int32)), .inl ((38 : Int32)), .inr (.inr (r319))], hd L318, 38, 12015)) 2 rfl ?_
  refine TI_iast rfl (fun _ => ?_)
  refine T_let (Sf := fun L320 => (361, [(1, .inl ((38 : Int32))), (0, .inr (.inr (x0)))], [], hd L320, 38, 12015)) (fun L320 => ?_)
  refine T_go (S' := (355, [(1, .inl ((39 : Int32))), (0, .inr (.inr (x0)))], [.inr (.inr (x0))], hd L320, 38, 12015)) 6 rfl ?_
  refine TI_getR rfl (fun _ => ?_)
  refine T_let (Sf := fun r321 => (358, [(1, .inl ((39 : Int32))), (0, .inr (.inr (x0)))], [.inr (.inr (r321))], hd L320, 38, 12015)) (fun r321 => ?_)
  refine T_go (S' := (360, [(1, .inl ((39 : Int32))), (0, .inr (.inr (x0)))], [.inl ((-1 : Int32)), .inl ((39 : Int32)), .inr (.inr (r321))], hd L320, 38, 12015)) 2 rfl ?_
  refine TI_iast rfl (fun _ => ?_)
  refine T_let (Sf := fun L322 => (361, [(1, .inl ((39 : Int32))), (0, .inr (.inr (x0)))], [], hd L322, 38, 12015)) (fun L322 => ?_)
  refine T_go (S' := (355, [(1, .inl ((40 : Int32))), (0, .inr (.inr (x0)))], [.inr (.inr (x0))], hd L322, 38, 12015)) 6 rfl ?_
  refine TI_getR rfl (fun _ => ?_)
  refine T_let (Sf := fun r323 => (358, [(1, .inl ((40 : Int32))), (0, .inr (.inr (x0)))], [.inr (.inr (r323))], hd L322, 38, 12015)) (fun r323 => ?_)
  refine T_go (S' := (360, [(1, .inl ((40 : Int32))), (0, .inr (.inr (x0)))], [.inl ((-1 : Int32)), .inl ((40 : Int32)), .inr (.inr (r323))], hd L322, 38, 12015)) 2 rfl ?_
  refine TI_iast rfl (fun _ => ?_)
  refine T_let (Sf := fun L324 => (361, [(1, .inl ((40 : Int32))), (0, .inr (.inr (x0)))], [], hd L324, 38, 12015)) (fun L324 => ?_)
  exact s_X12_init_c9 x0 L324
set_option maxRecDepth 20000 in
def f_X12_init_c7 (x0 : Nat) (L : List eOp) : Option (List eOp) :=
  if ((hd L).2.1 x0).1 = 10 then
  eLet ((hd L).2.2.2.1 x0 19) fun r261 =>
  if ((hd L).2.1 r261).1 = 11 ∧ eix (9 : Int32) ((hd L).2.1 r261).2 = true then
  eLet ((4, r261, 9, 0, (-1 : Int32)) :: L) fun L262 =>
  if ((hd L262).2.1 x0).1 = 10 then
  eLet ((hd L262).2.2.2.1 x0 19) fun r263 =>
  if ((hd L262).2.1 r263).1 = 11 ∧ eix (10 : Int32) ((hd L262).2.1 r263).2 = true then
  eLet ((4, r263, 10, 0, (-1 : Int32)) :: L262) fun L264 =>
  if ((hd L264).2.1 x0).1 = 10 then
  eLet ((hd L264).2.2.2.1 x0 19) fun r265 =>
  if ((hd L264).2.1 r265).1 = 11 ∧ eix (11 : Int32) ((hd L264).2.1 r265).2 = true then
  eLet ((4, r265, 11, 0, (-1 : Int32)) :: L264) fun L266 =>
  if ((hd L266).2.1 x0).1 = 10 then
  eLet ((hd L266).2.2.2.1 x0 19) fun r267 =>
  if ((hd L266).2.1 r267).1 = 11 ∧ eix (12 : Int32) ((hd L266).2.1 r267).2 = true then
  eLet ((4, r267, 12, 0, (-1 : Int32)) :: L266) fun L268 =>
  if ((hd L268).2.1 x0).1 = 10 then
  eLet ((hd L268).2.2.2.1 x0 19) fun r269 =>
  if ((hd L268).2.1 r269).1 = 11 ∧ eix (13 : Int32) ((hd L268).2.1 r269).2 = true then
  eLet ((4, r269, 13, 0, (-1 : Int32)) :: L268) fun L270 =>
  if ((hd L270).2.1 x0).1 = 10 then
  eLet ((hd L270).2.2.2.1 x0 19) fun r271 =>
  if ((hd L270).2.1 r271).1 = 11 ∧ eix (14 : Int32) ((hd L270).2.1 r271).2 = true then
  eLet ((4, r271, 14, 0, (-1 : Int32)) :: L270) fun L272 =>
  if ((hd L272).2.1 x0).1 = 10 then
  eLet ((hd L272).2.2.2.1 x0 19) fun r273 =>
  if ((hd L272).2.1 r273).1 = 11 ∧ eix (15 : Int32) ((hd L272).2.1 r273).2 = true then
  eLet ((4, r273, 15, 0, (-1 : Int32)) :: L272) fun L274 =>
  if ((hd L274).2.1 x0).1 = 10 then
  eLet ((hd L274).2.2.2.1 x0 19) fun r275 =>
  if ((hd L274).2.1 r275).1 = 11 ∧ eix (16 : Int32) ((hd L274).2.1 r275).2 = true then
  eLet ((4, r275, 16, 0, (-1 : Int32)) :: L274) fun L276 =>
  if ((hd L276).2.1 x0).1 = 10 then
  eLet ((hd L276).2.2.2.1 x0 19) fun r277 =>
  if ((hd L276).2.1 r277).1 = 11 ∧ eix (17 : Int32) ((hd L276).2.1 r277).2 = true then
  eLet ((4, r277, 17, 0, (-1 : Int32)) :: L276) fun L278 =>
  if ((hd L278).2.1 x0).1 = 10 then
  eLet ((hd L278).2.2.2.1 x0 19) fun r279 =>
  if ((hd L278).2.1 r279).1 = 11 ∧ eix (18 : Int32) ((hd L278).2.1 r279).2 = true then
  eLet ((4, r279, 18, 0, (-1 : Int32)) :: L278) fun L280 =>
  if ((hd L280).2.1 x0).1 = 10 then
  eLet ((hd L280).2.2.2.1 x0 19) fun r281 =>
  if ((hd L280).2.1 r281).1 = 11 ∧ eix (19 : Int32) ((hd L280).2.1 r281).2 = true then
  eLet ((4, r281, 19, 0, (-1 : Int32)) :: L280) fun L282 =>
  if ((hd L282).2.1 x0).1 = 10 then
  eLet ((hd L282).2.2.2.1 x0 19) fun r283 =>
  if ((hd L282).2.1 r283).1 = 11 ∧ eix (20 : Int32) ((hd L282).2.1 r283).2 = true then
  eLet ((4, r283, 20, 0, (-1 : Int32)) :: L282) fun L284 =>
  if ((hd L284).2.1 x0).1 = 10 then
  eLet ((hd L284).2.2.2.1 x0 19) fun r285 =>
  if ((hd L284).2.1 r285).1 = 11 ∧ eix (21 : Int32) ((hd L284).2.1 r285).2 = true then
  eLet ((4, r285, 21, 0, (-1 : Int32)) :: L284) fun L286 =>
  if ((hd L286).2.1 x0).1 = 10 then
  eLet ((hd L286).2.2.2.1 x0 19) fun r287 =>
  if ((hd L286).2.1 r287).1 = 11 ∧ eix (22 : Int32) ((hd L286).2.1 r287).2 = true then
  eLet ((4, r287, 22, 0, (-1 : Int32)) :: L286) fun L288 =>
  if ((hd L288).2.1 x0).1 = 10 then
  eLet ((hd L288).2.2.2.1 x0 19) fun r289 =>
  if ((hd L288).2.1 r289).1 = 11 ∧ eix (23 : Int32) ((hd L288).2.1 r289).2 = true then
  eLet ((4, r289, 23, 0, (-1 : Int32)) :: L288) fun L290 =>
  if ((hd L290).2.1 x0).1 = 10 then
  eLet ((hd L290).2.2.2.1 x0 19) fun r291 =>
  if ((hd L290).2.1 r291).1 = 11 ∧ eix (24 : Int32) ((hd L290).2.1 r291).2 = true then
  eLet ((4, r291, 24, 0, (-1 : Int32)) :: L290) fun L292 =>
  f_X12_init_c8 x0 L292
  else none
  else none
  else none
  else none
  else none
  else none
  else none
  else none
  else none
  else none
  else none
  else none
  else none
  else none
  else none
  else none
  else none
  else none
  else none
  else none
  else none
  else none
  else none
  else none
  else none
  else none
  else none
  else none
  else none
  else none
  else none
  else none
set_option maxHeartbeats 4000000 in
set_option maxRecDepth 20000 in
theorem s_X12_init_c7 (x0 : Nat) (L : List eOp) : Snd true none 0 m_X12_init (f_X12_init_c7 x0 L) cI (361, [(1, .inl ((8 : Int32))), (0, .inr (.inr (x0)))], [], hd L, 38, 12015) := by
  unfold f_X12_init_c7
  refine T_go (S' := (355, [(1, .inl ((9 : Int32))), (0, .inr (.inr (x0)))], [.inr (.inr (x0))], hd L, 38, 12015)) 6 rfl ?_
  refine TI_getR rfl (fun _ => ?_)
  refine T_let (Sf := fun r261 => (358, [(1, .inl ((9 : Int32))), (0, .inr (.inr (x0)))], [.inr (.inr (r261))], hd L, 38, 12015)) (fun r261 => ?_)
  refine T_go (S' := (360, [(1, .inl ((9 : Int32))), (0, .inr (.inr (x0)))], [.inl ((-1 : Int32)), .inl ((9 : Int32)), .inr (.inr (r261))], hd L, 38, 12015)) 2 rfl ?_
  refine TI_iast rfl (fun _ => ?_)
  refine T_let (Sf := fun L262 => (361, [(1, .inl ((9 : Int32))), (0, .inr (.inr (x0)))], [], hd L262, 38, 12015)) (fun L262 => ?_)
  refine T_go (S' := (355, [(1, .inl ((10 : Int32))), (0, .inr (.inr (x0)))], [.inr (.inr (x0))], hd L262, 38, 12015)) 6 rfl ?_
  refine TI_getR rfl (fun _ => ?_)
  refine T_let (Sf := fun r263 => (358, [(1, .inl ((10 : Int32))), (0, .inr (.inr (x0)))], [.inr (.inr (r263))], hd L262, 38, 12015)) (fun r263 => ?_)
  refine T_go (S' := (360, [(1, .inl ((10 : Int32))), (0, .inr (.inr (x0)))], [.inl ((-1 : Int32)), .inl ((10 : Int32)), .inr (.inr (r263))], hd L262, 38, 12015)) 2 rfl ?_
  refine TI_iast rfl (fun _ => ?_)
  refine T_let (Sf := fun L264 => (361, [(1, .inl ((10 : Int32))), (0, .inr (.inr (x0)))], [], hd L264, 38, 12015)) (fun L264 => ?_)
  refine T_go (S' := (355, [(1, .inl ((11 : Int32))), (0, .inr (.inr (x0)))], [.inr (.inr (x0))], hd L264, 38, 12015)) 6 rfl ?_
  refine TI_getR rfl (fun _ => ?_)
  refine T_let (Sf := fun r265 => (358, [(1, .inl ((11 : Int32))), (0, .inr (.inr (x0)))], [.inr (.inr (r265))], hd L264, 38, 12015)) (fun r265 => ?_)
  refine T_go (S' := (360, [(1, .inl ((11 : Int32))), (0, .inr (.inr (x0)))], [.inl ((-1 : Int32)), .inl ((11 : Int32)), .inr (.inr (r265))], hd L264, 38, 12015)) 2 rfl ?_
  refine TI_iast rfl (fun _ => ?_)
  refine T_let (Sf := fun L266 => (361, [(1, .inl ((11 : Int32))), (0, .inr (.inr (x0)))], [], hd L266, 38, 12015)) (fun L266 => ?_)
  refine T_go (S' := (355, [(1, .inl ((12 : Int32))), (0, .inr (.inr (x0)))], [.inr (.inr (x0))], hd L266, 38, 12015)) 6 rfl ?_
  refine TI_getR rfl (fun _ => ?_)
  refine T_let (Sf := fun r267 => (358, [(1, .inl ((12 : Int32))), (0, .inr (.inr (x0)))], [.inr (.inr (r267))], hd L266, 38, 12015)) (fun r267 => ?_)
  refine T_go (S' := (360, [(1, .inl ((12 : Int32))), (0, .inr (.inr (x0)))], [.inl ((-1 : Int32)), .inl ((12 : Int32)), .inr (.inr (r267))], hd L266, 38, 12015)) 2 rfl ?_
  refine TI_iast rfl (fun _ => ?_)
  refine T_let (Sf := fun L268 => (361, [(1, .inl ((12 : Int32))), (0, .inr (.inr (x0)))], [], hd L268, 38, 12015)) (fun L268 => ?_)
  refine T_go (S' := (355, [(1, .inl ((13 : Int32))), (0, .inr (.inr (x0)))], [.inr (.inr (x0))], hd L268, 38, 12015)) 6 rfl ?_
  refine TI_getR rfl (fun _ => ?_)
  refine T_let (Sf := fun r269 => (358, [(1, .inl ((13 : Int32))), (0, .inr (.inr (x0)))], [.inr (.inr (r269))], hd L268, 38, 12015)) (fun r269 => ?_)
  refine T_go (S' := (360, [(1, .inl ((13 : Int32))), (0, .inr (.inr (x0)))], [.inl ((-1 : Int32)), .inl ((13 : Int32)), .inr (.inr (r269))], hd L268, 38, 12015)) 2 rfl ?_
  refine TI_iast rfl (fun _ => ?_)
  refine T_let (Sf := fun L270 => (361, [(1, .inl ((13 : Int32))), (0, .inr (.inr (x0)))], [], hd L270, 38, 12015)) (fun L270 => ?_)
  refine T_go (S' := (355, [(1, .inl ((14 : Int32))), (0, .inr (.inr (x0)))], [.inr (.inr (x0))], hd L270, 38, 12015)) 6 rfl ?_
  refine TI_getR rfl (fun _ => ?_)
  refine T_let (Sf := fun r271 => (358, [(1, .inl ((14 : Int32))), (0, .inr (.inr (x0)))], [.inr (.inr (r271))], hd L270, 38, 12015)) (fun r271 => ?_)
  refine T_go (S' := (360, [(1, .inl ((14 : Int32))), (0, .inr (.inr (x0)))], [.inl ((-1 : Int32)), .inl ((14 : Int32)), .inr (.inr (r271))], hd L270, 38, 12015)) 2 rfl ?_
  refine TI_iast rfl (fun _ => ?_)
  refine T_let (Sf := fun L272 => (361, [(1, .inl ((14 : Int32))), (0, .inr (.inr (x0)))], [], hd L272, 38, 12015)) (fun L272 => ?_)
  refine T_go (S' := (355, [(1, .inl ((15 : Int32))), (0, .inr (.inr (x0)))], [.inr (.inr (x0))], hd L272, 38, 12015)) 6 rfl ?_
  refine TI_getR rfl (fun _ => ?_)
  refine T_let (Sf := fun r273 => (358, [(1, .inl ((15 : Int32))), (0, .inr (.inr (x0)))], [.inr (.inr (r273))], hd L272, 38, 12015)) (fun r273 => ?_)
  refine T_go (S' := (360, [(1, .inl ((15 : Int32))), (0, .inr (.inr (x0)))], [.inl ((-1 : Int32)), .inl ((15 : Int32)), .inr (.inr (r273))], hd L272, 38, 12015)) 2 rfl ?_
  refine TI_iast rfl (fun _ => ?_)
  refine T_let (Sf := fun L274 => (361, [(1, .inl ((15 : Int32))), (0, .inr (.inr (x0)))], [], hd L274, 38, 12015)) (fun L274 => ?_)
  refine T_go (S' := (355, [(1, .inl ((16 : Int32))), (0, .inr (.inr (x0)))], [.inr (.inr (x0))], hd L274, 38, 12015)) 6 rfl ?_
  refine TI_getR rfl (fun _ => ?_)
  refine T_let (Sf := fun r275 => (358, [(1, .inl ((16 : Int32))), (0, .inr (.inr (x0)))], [.inr (.inr (r275))], hd L274, 38, 12015)) (fun r275 => ?_)
  refine T_go (S' := (360, [(1, .inl ((16 : Int32))), (0, .inr (.inr (x0)))], [.inl ((-1 : Int32)), .inl ((16 : Int32)), .inr (.inr (r275))], hd L274, 38, 12015)) 2 rfl ?_
  refine TI_iast rfl (fun _ => ?_)
  refine T_let (Sf := fun L276 => (361, [(1, .inl ((16 : Int32))), (0, .inr (.inr (x0)))], [], hd L276, 38, 12015)) (fun L276 => ?_)
  refine T_go (S' := (355, [(1, .inl ((17 : Int32))), (0, .inr (.inr (x0)))], [.inr (.inr (x0))], hd L276, 38, 12015)) 6 rfl ?_
  refine TI_getR rfl (fun _ => ?_)
  refine T_let (Sf := fun r277 => (358, [(1, .inl ((17 : Int32))), (0, .inr (.inr (x0)))], [.inr (.inr (r277))], hd L276, 38, 12015)) (fun r277 => ?_)
  refine T_go (S' := (360, [(1, .inl ((17 : Int32))), (0, .inr (.inr (x0)))], [.inl ((-1 : Int32)), .inl ((17 : Int32)), .inr (.inr (r277))], hd L276, 38, 12015)) 2 rfl ?_
  refine TI_iast rfl (fun _ => ?_)
  refine T_let (Sf := fun L278 => (361, [(1, .inl ((17 : Int32))), (0, .inr (.inr (x0)))], [], hd L278, 38, 12015)) (fun L278 => ?_)
  refine T_go (S' := (355, [(1, .inl ((18 : Int32))), (0, .inr (.inr (x0)))], [.inr (.inr (x0))], hd L278, 38, 12015)) 6 rfl ?_
  refine TI_getR rfl (fun _ => ?_)
  refine T_let (Sf := fun r279 => (358, [(1, .inl ((18 : Int32))), (0, .inr (.inr (x0)))], [.inr (.inr (r279))], hd L278, 38, 12015)) (fun r279 => ?_)
  refine T_go (S' := (360, [(1, .inl ((18 : Int32))), (0, .inr (.inr (x0)))], [.inl ((-1 : Int32)), .inl ((18 : Int32)), .inr (.inr (r279))], hd L278, 38, 12015)) 2 rfl ?_
  refine TI_iast rfl (fun _ => ?_)
  refine T_let (Sf := fun L280 => (361, [(1, .inl ((18 : Int32))), (0, .inr (.inr (x0)))], [], hd L280, 38, 12015)) (fun L280 => ?_)
  refine T_go (S' := (355, [(1, .inl ((19 : Int32))), (0, .inr (.inr (x0)))], [.inr (.inr (x0))], hd L280, 38, 12015)) 6 rfl ?_
  refine TI_getR rfl (fun _ => ?_)
  refine T_let (Sf := fun r281 => (358, [(1, .inl ((19 : Int32))), (0, .inr (.inr (x0)))], [.inr (.inr (r281))], hd L280, 38, 12015)) (fun r281 => ?_)
  refine T_go (S' := (360, [(1, .inl ((19 : Int32))), (0, .inr (.inr (x0)))], [.inl ((-1 : Int32)), .inl ((19 : Int32)), .inr (.inr (r281))], hd L280, 38, 12015)) 2 rfl ?_
  refine TI_iast rfl (fun _ => ?_)
  refine T_let (Sf := fun L282 => (361, [(1, .inl ((19 : Int32))), (0, .inr (.inr (x0)))], [], hd L282, 38, 12015)) (fun L282 => ?_)
  refine T_go (S' := (355, [(1, .inl ((20 : Int32))), (0, .inr (.inr (x0)))], [.inr (.inr (x0))], hd L282, 38, 12015)) 6 rfl ?_
  refine TI_getR rfl (fun _ => ?_)
  refine T_let (Sf := fun r283 => (358, [(1, .inl ((20 : Int32))), (0, .inr (.inr (x0)))], [.inr (.inr (r283))], hd L282, 38, 12015)) (fun r283 => ?_)
  refine T_go (S' := (360, [(1, .inl ((20 : Int32))), (0, .inr (.inr (x0)))], [.inl ((-1 : Int32)), .inl ((20 : Int32)), .inr (.inr (r283))], hd L282, 38, 12015)) 2 rfl ?_
  refine TI_iast rfl (fun _ => ?_)
  refine T_let (Sf := fun L284 => (361, [(1, .inl ((20 : Int32))), (0, .inr (.inr (x0)))], [], hd L284, 38, 12015)) (fun L284 => ?_)
  refine T_go (S' := (355, [(1, .inl ((21 : Int32))), (0, .inr (.inr (x0)))], [.inr (.inr (x0))], hd L284, 38, 12015)) 6 rfl ?_
  refine TI_getR rfl (fun _ => ?_)
  refine T_let (Sf := fun r285 => (358, [(1, .inl ((21 : Int32))), (0, .inr (.inr (x0)))], [.inr (.inr (r285))], hd L284, 38, 12015)) (fun r285 => ?_)
  refine T_go (S' := (360, [(1, .inl ((21 : Int32))), (0, .inr (.inr (x0)))], [.inl ((-1 : Int32)), .inl ((21 : Int32)), .inr (.inr (r285))], hd L284, 38, 12015)) 2 rfl ?_
  refine TI_iast rfl (fun _ => ?_)
  refine T_let (Sf := fun L286 => (361, [(1, .inl ((21 : Int32))), (0, .inr (.inr (x0)))], [], hd L286, 38, 12015)) (fun L286 => ?_)
  refine T_go (S' := (355, [(1, .inl ((22 : Int32))), (0, .inr (.inr (x0)))], [.inr (.inr (x0))], hd L286, 38, 12015)) 6 rfl ?_
  refine TI_getR rfl (fun _ => ?_)
  refine T_let (Sf := fun r287 => (358, [(1, .inl ((22 : Int32))), (0, .inr (.inr (x0)))], [.inr (.inr (r287))], hd L286, 38, 12015)) (fun r287 => ?_)
  refine T_go (S' := (360, [(1, .inl ((22 : Int32))), (0, .inr (.inr (x0)))], [.inl ((-1 : Int32)), .inl ((22 : Int32)), .inr (.inr (r287))], hd L286, 38, 12015)) 2 rfl ?_
  refine TI_iast rfl (fun _ => ?_)
  refine T_let (Sf := fun L288 => (361, [(1, .inl ((22 : Int32))), (0, .inr (.inr (x0)))], [], hd L288, 38, 12015)) (fun L288 => ?_)
  refine T_go (S' := (355, [(1, .inl ((23 : Int32))), (0, .inr (.inr (x0)))], [.inr (.inr (x0))], hd L288, 38, 12015)) 6 rfl ?_
  refine TI_getR rfl (fun _ => ?_)
  refine T_let (Sf := fun r289 => (358, [(1, .inl ((23 : Int32))), (0, .inr (.inr (x0)))], [.inr (.inr (r289))], hd L288, 38, 12015)) (fun r289 => ?_)
  refine T_go (S' := (360, [(1, .inl ((23 : Int32))), (0, .inr (.inr (x0)))], [.inl ((-1 : Int32)), .inl ((23 : Int32)), .inr (.inr (r289))], hd L288, 38, 12015)) 2 rfl ?_
  refine TI_iast rfl (fun _ => ?_)
  refine T_let (Sf := fun L290 => (361, [(1, .inl ((23 : Int32))), (0, .inr (.inr (x0)))], [], hd L290, 38, 12015)) (fun L290 => ?_)
  refine T_go (S' := (355, [(1, .inl ((24 : Int32))), (0, .inr (.inr (x0)))], [.inr (.inr (x0))], hd L290, 38, 12015)) 6 rfl ?_
  refine TI_getR rfl (fun _ => ?_)
  refine T_let (Sf := fun r291 => (358, [(1, .inl ((24 : Int32))), (0, .inr (.inr (x0)))], [.inr (.inr (r291))], hd L290, 38, 12015)) (fun r291 => ?_)
  refine T_go (S' := (360, [(1, .inl ((24 : Int32))), (0, .inr (.inr (x0)))], [.inl ((-1 : Int32)), .inl ((24 : Int32)), .inr (.inr (r291))], hd L290, 38, 12015)) 2 rfl ?_
  refine TI_iast rfl (fun _ => ?_)
  refine T_let (Sf := fun L292 => (361, [(1, .inl ((24 : Int32))), (0, .inr (.inr (x0)))], [], hd L292, 38, 12015)) (fun L292 => ?_)
  exact s_X12_init_c8 x0 L292
set_option maxRecDepth 20000 in
def f_X12_init_c6 (x0 : Nat) (L : List eOp) : Option (List eOp) :=
  if ((hd L).2.1 x0).1 = 10 then
  eLet ((hd L).2.2.2.1 x0 4) fun r229 =>
  if ((hd L).2.1 r229).1 = 11 ∧ eix (14 : Int32) ((hd L).2.1 r229).2 = true then
  eLet ((4, r229, 14, 0, (-1 : Int32)) :: L) fun L230 =>
  if ((hd L230).2.1 x0).1 = 10 then
  eLet ((hd L230).2.2.2.1 x0 12) fun r231 =>
  if ((hd L230).2.1 r231).1 = 11 ∧ eix (14 : Int32) ((hd L230).2.1 r231).2 = true then
  eLet ((4, r231, 14, 0, (-1 : Int32)) :: L230) fun L232 =>
  if ((hd L232).2.1 x0).1 = 10 then
  eLet ((hd L232).2.2.2.1 x0 17) fun r233 =>
  if ((hd L232).2.1 r233).1 = 11 ∧ eix (14 : Int32) ((hd L232).2.1 r233).2 = true then
  eLet ((4, r233, 14, 0, (-1 : Int32)) :: L232) fun L234 =>
  if ((hd L234).2.1 x0).1 = 10 then
  eLet ((hd L234).2.2.2.1 x0 1) fun r235 =>
  if ((hd L234).2.1 r235).1 = 11 ∧ eix (15 : Int32) ((hd L234).2.1 r235).2 = true then
  eLet ((4, r235, 15, 0, (-1 : Int32)) :: L234) fun L236 =>
  if ((hd L236).2.1 x0).1 = 10 then
  eLet ((hd L236).2.2.2.1 x0 4) fun r237 =>
  if ((hd L236).2.1 r237).1 = 11 ∧ eix (15 : Int32) ((hd L236).2.1 r237).2 = true then
  eLet ((4, r237, 15, 0, (-1 : Int32)) :: L236) fun L238 =>
  if ((hd L238).2.1 x0).1 = 10 then
  eLet ((hd L238).2.2.2.1 x0 12) fun r239 =>
  if ((hd L238).2.1 r239).1 = 11 ∧ eix (15 : Int32) ((hd L238).2.1 r239).2 = true then
  eLet ((4, r239, 15, 0, (-1 : Int32)) :: L238) fun L240 =>
  if ((hd L240).2.1 x0).1 = 10 then
  eLet ((hd L240).2.2.2.1 x0 17) fun r241 =>
  if ((hd L240).2.1 r241).1 = 11 ∧ eix (15 : Int32) ((hd L240).2.1 r241).2 = true then
  eLet ((4, r241, 15, 0, (-1 : Int32)) :: L240) fun L242 =>
  if ((hd L242).2.1 x0).1 = 10 then
  eLet ((hd L242).2.2.2.1 x0 19) fun r243 =>
  if ((hd L242).2.1 r243).1 = 11 ∧ eix (0 : Int32) ((hd L242).2.1 r243).2 = true then
  eLet ((4, r243, 0, 0, (-1 : Int32)) :: L242) fun L244 =>
  if ((hd L244).2.1 x0).1 = 10 then
  eLet ((hd L244).2.2.2.1 x0 19) fun r245 =>
  if ((hd L244).2.1 r245).1 = 11 ∧ eix (1 : Int32) ((hd L244).2.1 r245).2 = true then
  eLet ((4, r245, 1, 0, (-1 : Int32)) :: L244) fun L246 =>
  if ((hd L246).2.1 x0).1 = 10 then
  eLet ((hd L246).2.2.2.1 x0 19) fun r247 =>
  if ((hd L246).2.1 r247).1 = 11 ∧ eix (2 : Int32) ((hd L246).2.1 r247).2 = true then
  eLet ((4, r247, 2, 0, (-1 : Int32)) :: L246) fun L248 =>
  if ((hd L248).2.1 x0).1 = 10 then
  eLet ((hd L248).2.2.2.1 x0 19) fun r249 =>
  if ((hd L248).2.1 r249).1 = 11 ∧ eix (3 : Int32) ((hd L248).2.1 r249).2 = true then
  eLet ((4, r249, 3, 0, (-1 : Int32)) :: L248) fun L250 =>
  if ((hd L250).2.1 x0).1 = 10 then
  eLet ((hd L250).2.2.2.1 x0 19) fun r251 =>
  if ((hd L250).2.1 r251).1 = 11 ∧ eix (4 : Int32) ((hd L250).2.1 r251).2 = true then
  eLet ((4, r251, 4, 0, (-1 : Int32)) :: L250) fun L252 =>
  if ((hd L252).2.1 x0).1 = 10 then
  eLet ((hd L252).2.2.2.1 x0 19) fun r253 =>
  if ((hd L252).2.1 r253).1 = 11 ∧ eix (5 : Int32) ((hd L252).2.1 r253).2 = true then
  eLet ((4, r253, 5, 0, (-1 : Int32)) :: L252) fun L254 =>
  if ((hd L254).2.1 x0).1 = 10 then
  eLet ((hd L254).2.2.2.1 x0 19) fun r255 =>
  if ((hd L254).2.1 r255).1 = 11 ∧ eix (6 : Int32) ((hd L254).2.1 r255).2 = true then
  eLet ((4, r255, 6, 0, (-1 : Int32)) :: L254) fun L256 =>
  if ((hd L256).2.1 x0).1 = 10 then
  eLet ((hd L256).2.2.2.1 x0 19) fun r257 =>
  if ((hd L256).2.1 r257).1 = 11 ∧ eix (7 : Int32) ((hd L256).2.1 r257).2 = true then
  eLet ((4, r257, 7, 0, (-1 : Int32)) :: L256) fun L258 =>
  if ((hd L258).2.1 x0).1 = 10 then
  eLet ((hd L258).2.2.2.1 x0 19) fun r259 =>
  if ((hd L258).2.1 r259).1 = 11 ∧ eix (8 : Int32) ((hd L258).2.1 r259).2 = true then
  eLet ((4, r259, 8, 0, (-1 : Int32)) :: L258) fun L260 =>
  f_X12_init_c7 x0 L260
  else none
  else none
  else none
  else none
  else none
  else none
  else none
  else none
  else none
  else none
  else none
  else none
  else none
  else none
  else none
  else none
  else none
  else none
  else none
  else none
  else none
  else none
  else none
  else none
  else none
  else none
  else none
  else none
  else none
  else none
  else none
  else none
set_option maxHeartbeats 4000000 in
set_option maxRecDepth 20000 in
theorem s_X12_init_c6 (x0 : Nat) (L : List eOp) : Snd true none 0 m_X12_init (f_X12_init_c6 x0 L) cI (319, [(1, .inl ((14 : Int32))), (0, .inr (.inr (x0)))], [], hd L, 38, 12015) := by
  unfold f_X12_init_c6
  refine T_go (S' := (320, [(1, .inl ((14 : Int32))), (0, .inr (.inr (x0)))], [.inr (.inr (x0))], hd L, 38, 12015)) 1 rfl ?_
  refine TI_getR rfl (fun _ => ?_)
  refine T_let (Sf := fun r229 => (323, [(1, .inl ((14 : Int32))), (0, .inr (.inr (x0)))], [.inr (.inr (r229))], hd L, 38, 12015)) (fun r229 => ?_)
  refine T_go (S' := (325, [(1, .inl ((14 : Int32))), (0, .inr (.inr (x0)))], [.inl ((-1 : Int32)), .inl ((14 : Int32)), .inr (.inr (r229))], hd L, 38, 12015)) 2 rfl ?_
  refine TI_iast rfl (fun _ => ?_)
  refine T_let (Sf := fun L230 => (326, [(1, .inl ((14 : Int32))), (0, .inr (.inr (x0)))], [], hd L230, 38, 12015)) (fun L230 => ?_)
  refine T_go (S' := (327, [(1, .inl ((14 : Int32))), (0, .inr (.inr (x0)))], [.inr (.inr (x0))], hd L230, 38, 12015)) 1 rfl ?_
  refine TI_getR rfl (fun _ => ?_)
  refine T_let (Sf := fun r231 => (330, [(1, .inl ((14 : Int32))), (0, .inr (.inr (x0)))], [.inr (.inr (r231))], hd L230, 38, 12015)) (fun r231 => ?_)
  refine T_go (S' := (332, [(1, .inl ((14 : Int32))), (0, .inr (.inr (x0)))], [.inl ((-1 : Int32)), .inl ((14 : Int32)), .inr (.inr (r231))], hd L230, 38, 12015)) 2 rfl ?_
  refine TI_iast rfl (fun _ => ?_)
  refine T_let (Sf := fun L232 => (333, [(1, .inl ((14 : Int32))), (0, .inr (.inr (x0)))], [], hd L232, 38, 12015)) (fun L232 => ?_)
  refine T_go (S' := (334, [(1, .inl ((14 : Int32))), (0, .inr (.inr (x0)))], [.inr (.inr (x0))], hd L232, 38, 12015)) 1 rfl ?_
  refine TI_getR rfl (fun _ => ?_)
  refine T_let (Sf := fun r233 => (337, [(1, .inl ((14 : Int32))), (0, .inr (.inr (x0)))], [.inr (.inr (r233))], hd L232, 38, 12015)) (fun r233 => ?_)
  refine T_go (S' := (339, [(1, .inl ((14 : Int32))), (0, .inr (.inr (x0)))], [.inl ((-1 : Int32)), .inl ((14 : Int32)), .inr (.inr (r233))], hd L232, 38, 12015)) 2 rfl ?_
  refine TI_iast rfl (fun _ => ?_)
  refine T_let (Sf := fun L234 => (340, [(1, .inl ((14 : Int32))), (0, .inr (.inr (x0)))], [], hd L234, 38, 12015)) (fun L234 => ?_)
  refine T_go (S' := (313, [(1, .inl ((15 : Int32))), (0, .inr (.inr (x0)))], [.inr (.inr (x0))], hd L234, 38, 12015)) 6 rfl ?_
  refine TI_getR rfl (fun _ => ?_)
  refine T_let (Sf := fun r235 => (316, [(1, .inl ((15 : Int32))), (0, .inr (.inr (x0)))], [.inr (.inr (r235))], hd L234, 38, 12015)) (fun r235 => ?_)
  refine T_go (S' := (318, [(1, .inl ((15 : Int32))), (0, .inr (.inr (x0)))], [.inl ((-1 : Int32)), .inl ((15 : Int32)), .inr (.inr (r235))], hd L234, 38, 12015)) 2 rfl ?_
  refine TI_iast rfl (fun _ => ?_)
  refine T_let (Sf := fun L236 => (319, [(1, .inl ((15 : Int32))), (0, .inr (.inr (x0)))], [], hd L236, 38, 12015)) (fun L236 => ?_)
  refine T_go (S' := (320, [(1, .inl ((15 : Int32))), (0, .inr (.inr (x0)))], [.inr (.inr (x0))], hd L236, 38, 12015)) 1 rfl ?_
  refine TI_getR rfl (fun _ => ?_)
  refine T_let (Sf := fun r237 => (323, [(1, .inl ((15 : Int32))), (0, .inr (.inr (x0)))], [.inr (.inr (r237))], hd L236, 38, 12015)) (fun r237 => ?_)
  refine T_go (S' := (325, [(1, .inl ((15 : Int32))), (0, .inr (.inr (x0)))], [.inl ((-1 : Int32)), .inl ((15 : Int32)), .inr (.inr (r237))], hd L236, 38, 12015)) 2 rfl ?_
  refine TI_iast rfl (fun _ => ?_)
  refine T_let (Sf := fun L238 => (326, [(1, .inl ((15 : Int32))), (0, .inr (.inr (x0)))], [], hd L238, 38, 12015)) (fun L238 => ?_)
  refine T_go (S' := (327, [(1, .inl ((15 : Int32))), (0, .inr (.inr (x0)))], [.inr (.inr (x0))], hd L238, 38, 12015)) 1 rfl ?_
  refine TI_getR rfl (fun _ => ?_)
  refine T_let (Sf := fun r239 => (330, [(1, .inl ((15 : Int32))), (0, .inr (.inr (x0)))], [.inr (.inr (r239))], hd L238, 38, 12015)) (fun r239 => ?_)
  refine T_go (S' := (332, [(1, .inl ((15 : Int32))), (0, .inr (.inr (x0)))], [.inl ((-1 : Int32)), .inl ((15 : Int32)), .inr (.inr (r239))], hd L238, 38, 12015)) 2 rfl ?_
  refine TI_iast rfl (fun _ => ?_)
  refine T_let (Sf := fun L240 => (333, [(1, .inl ((15 : Int32))), (0, .inr (.inr (x0)))], [], hd L240, 38, 12015)) (fun L240 => ?_)
  refine T_go (S' := (334, [(1, .inl ((15 : Int32))), (0, .inr (.inr (x0)))], [.inr (.inr (x0))], hd L240, 38, 12015)) 1 rfl ?_
  refine TI_getR rfl (fun _ => ?_)
  refine T_let (Sf := fun r241 => (337, [(1, .inl ((15 : Int32))), (0, .inr (.inr (x0)))], [.inr (.inr (r241))], hd L240, 38, 12015)) (fun r241 => ?_)
  refine T_go (S' := (339, [(1, .inl ((15 : Int32))), (0, .inr (.inr (x0)))], [.inl ((-1 : Int32)), .inl ((15 : Int32)), .inr (.inr (r241))], hd L240, 38, 12015)) 2 rfl ?_
  refine TI_iast rfl (fun _ => ?_)
  refine T_let (Sf := fun L242 => (340, [(1, .inl ((15 : Int32))), (0, .inr (.inr (x0)))], [], hd L242, 38, 12015)) (fun L242 => ?_)
  refine T_go (S' := (355, [(1, .inl ((0 : Int32))), (0, .inr (.inr (x0)))], [.inr (.inr (x0))], hd L242, 38, 12015)) 11 rfl ?_
  refine TI_getR rfl (fun _ => ?_)
  refine T_let (Sf := fun r243 => (358, [(1, .inl ((0 : Int32))), (0, .inr (.inr (x0)))], [.inr (.inr (r243))], hd L242, 38, 12015)) (fun r243 => ?_)
  refine T_go (S' := (360, [(1, .inl ((0 : Int32))), (0, .inr (.inr (x0)))], [.inl ((-1 : Int32)), .inl ((0 : Int32)), .inr (.inr (r243))], hd L242, 38, 12015)) 2 rfl ?_
  refine TI_iast rfl (fun _ => ?_)
  refine T_let (Sf := fun L244 => (361, [(1, .inl ((0 : Int32))), (0, .inr (.inr (x0)))], [], hd L244, 38, 12015)) (fun L244 => ?_)
  refine T_go (S' := (355, [(1, .inl ((1 : Int32))), (0, .inr (.inr (x0)))], [.inr (.inr (x0))], hd L244, 38, 12015)) 6 rfl ?_
  refine TI_getR rfl (fun _ => ?_)
  refine T_let (Sf := fun r245 => (358, [(1, .inl ((1 : Int32))), (0, .inr (.inr (x0)))], [.inr (.inr (r245))], hd L244, 38, 12015)) (fun r245 => ?_)
  refine T_go (S' := (360, [(1, .inl ((1 : Int32))), (0, .inr (.inr (x0)))], [.inl ((-1 : Int32)), .inl ((1 : Int32)), .inr (.inr (r245))], hd L244, 38, 12015)) 2 rfl ?_
  refine TI_iast rfl (fun _ => ?_)
  refine T_let (Sf := fun L246 => (361, [(1, .inl ((1 : Int32))), (0, .inr (.inr (x0)))], [], hd L246, 38, 12015)) (fun L246 => ?_)
  refine T_go (S' := (355, [(1, .inl ((2 : Int32))), (0, .inr (.inr (x0)))], [.inr (.inr (x0))], hd L246, 38, 12015)) 6 rfl ?_
  refine TI_getR rfl (fun _ => ?_)
  refine T_let (Sf := fun r247 => (358, [(1, .inl ((2 : Int32))), (0, .inr (.inr (x0)))], [.inr (.inr (r247))], hd L246, 38, 12015)) (fun r247 => ?_)
  refine T_go (S' := (360, [(1, .inl ((2 : Int32))), (0, .inr (.inr (x0)))], [.inl ((-1 : Int32)), .inl ((2 : Int32)), .inr (.inr (r247))], hd L246, 38, 12015)) 2 rfl ?_
  refine TI_iast rfl (fun _ => ?_)
  refine T_let (Sf := fun L248 => (361, [(1, .inl ((2 : Int32))), (0, .inr (.inr (x0)))], [], hd L248, 38, 12015)) (fun L248 => ?_)
  refine T_go (S' := (355, [(1, .inl ((3 : Int32))), (0, .inr (.inr (x0)))], [.inr (.inr (x0))], hd L248, 38, 12015)) 6 rfl ?_
  refine TI_getR rfl (fun _ => ?_)
  refine T_let (Sf := fun r249 => (358, [(1, .inl ((3 : Int32))), (0, .inr (.inr (x0)))], [.inr (.inr (r249))], hd L248, 38, 12015)) (fun r249 => ?_)
  refine T_go (S' := (360, [(1, .inl ((3 : Int32))), (0, .inr (.inr (x0)))], [.inl ((-1 : Int32)), .inl ((3 : Int32)), .inr (.inr (r249))], hd L248, 38, 12015)) 2 rfl ?_
  refine TI_iast rfl (fun _ => ?_)
  refine T_let (Sf := fun L250 => (361, [(1, .inl ((3 : Int32))), (0, .inr (.inr (x0)))], [], hd L250, 38, 12015)) (fun L250 => ?_)
  refine T_go (S' := (355, [(1, .inl ((4 : Int32))), (0, .inr (.inr (x0)))], [.inr (.inr (x0))], hd L250, 38, 12015)) 6 rfl ?_
  refine TI_getR rfl (fun _ => ?_)
  refine T_let (Sf := fun r251 => (358, [(1, .inl ((4 : Int32))), (0, .inr (.inr (x0)))], [.inr (.inr (r251))], hd L250, 38, 12015)) (fun r251 => ?_)
  refine T_go (S' := (360, [(1, .inl ((4 : Int32))), (0, .inr (.inr (x0)))], [.inl ((-1 : Int32)), .inl ((4 : Int32)), .inr (.inr (r251))], hd L250, 38, 12015)) 2 rfl ?_
  refine TI_iast rfl (fun _ => ?_)
  refine T_let (Sf := fun L252 => (361, [(1, .inl ((4 : Int32))), (0, .inr (.inr (x0)))], [], hd L252, 38, 12015)) (fun L252 => ?_)
  refine T_go (S' := (355, [(1, .inl ((5 : Int32))), (0, .inr (.inr (x0)))], [.inr (.inr (x0))], hd L252, 38, 12015)) 6 rfl ?_
  refine TI_getR rfl (fun _ => ?_)
  refine T_let (Sf := fun r253 => (358, [(1, .inl ((5 : Int32))), (0, .inr (.inr (x0)))], [.inr (.inr (r253))], hd L252, 38, 12015)) (fun r253 => ?_)
  refine T_go (S' := (360, [(1, .inl ((5 : Int32))), (0, .inr (.inr (x0)))], [.inl ((-1 : Int32)), .inl ((5 : Int32)), .inr (.inr (r253))], hd L252, 38, 12015)) 2 rfl ?_
  refine TI_iast rfl (fun _ => ?_)
  refine T_let (Sf := fun L254 => (361, [(1, .inl ((5 : Int32))), (0, .inr (.inr (x0)))], [], hd L254, 38, 12015)) (fun L254 => ?_)
  refine T_go (S' := (355, [(1, .inl ((6 : Int32))), (0, .inr (.inr (x0)))], [.inr (.inr (x0))], hd L254, 38, 12015)) 6 rfl ?_
  refine TI_getR rfl (fun _ => ?_)
  refine T_let (Sf := fun r255 => (358, [(1, .inl ((6 : Int32))), (0, .inr (.inr (x0)))], [.inr (.inr (r255))], hd L254, 38, 12015)) (fun r255 => ?_)
  refine T_go (S' := (360, [(1, .inl ((6 : Int32))), (0, .inr (.inr (x0)))], [.inl ((-1 : Int32)), .inl ((6 : Int32)), .inr (.inr (r255))], hd L254, 38, 12015)) 2 rfl ?_
  refine TI_iast rfl (fun _ => ?_)
  refine T_let (Sf := fun L256 => (361, [(1, .inl ((6 : Int32))), (0, .inr (.inr (x0)))], [], hd L256, 38, 12015)) (fun L256 => ?_)
  refine T_go (S' := (355, [(1, .inl ((7 : Int32))), (0, .inr (.inr (x0)))], [.inr (.inr (x0))], hd L256, 38, 12015)) 6 rfl ?_
  refine TI_getR rfl (fun _ => ?_)
  refine T_let (Sf := fun r257 => (358, [(1, .inl ((7 : Int32))), (0, .inr (.inr (x0)))], [.inr (.inr (r257))], hd L256, 38, 12015)) (fun r257 => ?_)
  refine T_go (S' := (360, [(1, .inl ((7 : Int32))), (0, .inr (.inr (x0)))], [.inl ((-1 : Int32)), .inl ((7 : Int32)), .inr (.inr (r257))], hd L256, 38, 12015)) 2 rfl ?_
  refine TI_iast rfl (fun _ => ?_)
  refine T_let (Sf := fun L258 => (361, [(1, .inl ((7 : Int32))), (0, .inr (.inr (x0)))], [], hd L258, 38, 12015)) (fun L258 => ?_)
  refine T_go (S' := (355, [(1, .inl ((8 : Int32))), (0, .inr (.inr (x0)))], [.inr (.inr (x0))], hd L258, 38, 12015)) 6 rfl ?_
  refine TI_getR rfl (fun _ => ?_)
  refine T_let (Sf := fun r259 => (358, [(1, .inl ((8 : Int32))), (0, .inr (.inr (x0)))], [.inr (.inr (r259))], hd L258, 38, 12015)) (fun r259 => ?_)
  refine T_go (S' := (360, [(1, .inl ((8 : Int32))), (0, .inr (.inr (x0)))], [.inl ((-1 : Int32)), .inl ((8 : Int32)), .inr (.inr (r259))], hd L258, 38, 12015)) 2 rfl ?_
  refine TI_iast rfl (fun _ => ?_)
  refine T_let (Sf := fun L260 => (361, [(1, .inl ((8 : Int32))), (0, .inr (.inr (x0)))], [], hd L260, 38, 12015)) (fun L260 => ?_)
  exact s_X12_init_c7 x0 L260
set_option maxRecDepth 20000 in
def f_X12_init_c5 (x0 : Nat) (L : List eOp) : Option (List eOp) :=
  if ((hd L).2.1 x0).1 = 10 then
  eLet ((hd L).2.2.2.1 x0 4) fun r197 =>
  if ((hd L).2.1 r197).1 = 11 ∧ eix (10 : Int32) ((hd L).2.1 r197).2 = true then
  eLet ((4, r197, 10, 0, (-1 : Int32)) :: L) fun L198 =>
  if ((hd L198).2.1 x0).1 = 10 then
  eLet ((hd L198).2.2.2.1 x0 12) fun r199 =>
  if ((hd L198).2.1 r199).1 = 11 ∧ eix (10 : Int32) ((hd L198).2.1 r199).2 = true then
  eLet ((4, r199, 10, 0, (-1 : Int32)) :: L198) fun L200 =>
  if ((hd L200).2.1 x0).1 = 10 then
  eLet ((hd L200).2.2.2.1 x0 17) fun r201 =>
  if ((hd L200).2.1 r201).1 = 11 ∧ eix (10 : Int32) ((hd L200).2.1 r201).2 = true then
  eLet ((4, r201, 10, 0, (-1 : Int32)) :: L200) fun L202 =>
  if ((hd L202).2.1 x0).1 = 10 then
  eLet ((hd L202).2.2.2.1 x0 1) fun r203 =>
  if ((hd L202).2.1 r203).1 = 11 ∧ eix (11 : Int32) ((hd L202).2.1 r203).2 = true then
  eLet ((4, r203, 11, 0, (-1 : Int32)) :: L202) fun L204 =>
  if ((hd L204).2.1 x0).1 = 10 then
  eLet ((hd L204).2.2.2.1 x0 4) fun r205 =>
  if ((hd L204).2.1 r205).1 = 11 ∧ eix (11 : Int32) ((hd L204).2.1 r205).2 = true then
  eLet ((4, r205, 11, 0, (-1 : Int32)) :: L204) fun L206 =>
  if ((hd L206).2.1 x0).1 = 10 then
  eLet ((hd L206).2.2.2.1 x0 12) fun r207 =>
  if ((hd L206).2.1 r207).1 = 11 ∧ eix (11 : Int32) ((hd L206).2.1 r207).2 = true then
  eLet ((4, r207, 11, 0, (-1 : Int32)) :: L206) fun L208 =>
  if ((hd L208).2.1 x0).1 = 10 then
  eLet ((hd L208).2.2.2.1 x0 17) fun r209 =>
  if ((hd L208).2.1 r209).1 = 11 ∧ eix (11 : Int32) ((hd L208).2.1 r209).2 = true then
  eLet ((4, r209, 11, 0, (-1 : Int32)) :: L208) fun L210 =>
  if ((hd L210).2.1 x0).1 = 10 then
  eLet ((hd L210).2.2.2.1 x0 1) fun r211 =>
  if ((hd L210).2.1 r211).1 = 11 ∧ eix (12 : Int32) ((hd L210).2.1 r211).2 = true then
  eLet ((4, r211, 12, 0, (-1 : Int32)) :: L210) fun L212 =>
  if ((hd L212).2.1 x0).1 = 10 then
  eLet ((hd L212).2.2.2.1 x0 4) fun r213 =>
  if ((hd L212).2.1 r213).1 = 11 ∧ eix (12 : Int32) ((hd L212).2.1 r213).2 = true then
  eLet ((4, r213, 12, 0, (-1 : Int32)) :: L212) fun L214 =>
  if ((hd L214).2.1 x0).1 = 10 then
  eLet ((hd L214).2.2.2.1 x0 12) fun r215 =>
  if ((hd L214).2.1 r215).1 = 11 ∧ eix (12 : Int32) ((hd L214).2.1 r215).2 = true then
  eLet ((4, r215, 12, 0, (-1 : Int32)) :: L214) fun L216 =>
  if ((hd L216).2.1 x0).1 = 10 then
  eLet ((hd L216).2.2.2.1 x0 17) fun r217 =>
  if ((hd L216).2.1 r217).1 = 11 ∧ eix (12 : Int32) ((hd L216).2.1 r217).2 = true then
  eLet ((4, r217, 12, 0, (-1 : Int32)) :: L216) fun L218 =>
  if ((hd L218).2.1 x0).1 = 10 then
  eLet ((hd L218).2.2.2.1 x0 1) fun r219 =>
  if ((hd L218).2.1 r219).1 = 11 ∧ eix (13 : Int32) ((hd L218).2.1 r219).2 = true then
  eLet ((4, r219, 13, 0, (-1 : Int32)) :: L218) fun L220 =>
  if ((hd L220).2.1 x0).1 = 10 then
  eLet ((hd L220).2.2.2.1 x0 4) fun r221 =>
  if ((hd L220).2.1 r221).1 = 11 ∧ eix (13 : Int32) ((hd L220).2.1 r221).2 = true then
  eLet ((4, r221, 13, 0, (-1 : Int32)) :: L220) fun L222 =>
  if ((hd L222).2.1 x0).1 = 10 then
  eLet ((hd L222).2.2.2.1 x0 12) fun r223 =>
  if ((hd L222).2.1 r223).1 = 11 ∧ eix (13 : Int32) ((hd L222).2.1 r223).2 = true then
  eLet ((4, r223, 13, 0, (-1 : Int32)) :: L222) fun L224 =>
  if ((hd L224).2.1 x0).1 = 10 then
  eLet ((hd L224).2.2.2.1 x0 17) fun r225 =>
  if ((hd L224).2.1 r225).1 = 11 ∧ eix (13 : Int32) ((hd L224).2.1 r225).2 = true then
  eLet ((4, r225, 13, 0, (-1 : Int32)) :: L224) fun L226 =>
  if ((hd L226).2.1 x0).1 = 10 then
  eLet ((hd L226).2.2.2.1 x0 1) fun r227 =>
  if ((hd L226).2.1 r227).1 = 11 ∧ eix (14 : Int32) ((hd L226).2.1 r227).2 = true then
  eLet ((4, r227, 14, 0, (-1 : Int32)) :: L226) fun L228 =>
  f_X12_init_c6 x0 L228
  else none
  else none
  else none
  else none
  else none
  else none
  else none
  else none
  else none
  else none
  else none
  else none
  else none
  else none
  else none
  else none
  else none
  else none
  else none
  else none
  else none
  else none
  else none
  else none
  else none
  else none
  else none
  else none
  else none
  else none
  else none
  else none
set_option maxHeartbeats 4000000 in
set_option maxRecDepth 20000 in
theorem s_X12_init_c5 (x0 : Nat) (L : List eOp) : Snd true none 0 m_X12_init (f_X12_init_c5 x0 L) cI (319, [(1, .inl ((10 : Int32))), (0, .inr (.inr (x0)))], [], hd L, 38, 12015) := by
  unfold f_X12_init_c5
  refine T_go (S' := (320, [(1, .inl ((10 : Int32))), (0, .inr (.inr (x0)))], [.inr (.inr (x0))], hd L, 38, 12015)) 1 rfl ?_
  refine TI_getR rfl (fun _ => ?_)
  refine T_let (Sf := fun r197 => (323, [(1, .inl ((10 : Int32))), (0, .inr (.inr (x0)))], [.inr (.inr (r197))], hd L, 38, 12015)) (fun r197 => ?_)
  refine T_go (S' := (325, [(1, .inl ((10 : Int32))), (0, .inr (.inr (x0)))], [.inl ((-1 : Int32)), .inl ((10 : Int32)), .inr (.inr (r197))], hd L, 38, 12015)) 2 rfl ?_
  refine TI_iast rfl (fun _ => ?_)
  refine T_let (Sf := fun L198 => (326, [(1, .inl ((10 : Int32))), (0, .inr (.inr (x0)))], [], hd L198, 38, 12015)) (fun L198 => ?_)
  refine T_go (S' := (327, [(1, .inl ((10 : Int32))), (0, .inr (.inr (x0)))], [.inr (.inr (x0))], hd L198, 38, 12015)) 1 rfl ?_
  refine TI_getR rfl (fun _ => ?_)
  refine T_let (Sf := fun r199 => (330, [(1, .inl ((10 : Int32))), (0, .inr (.inr (x0)))], [.inr (.inr (r199))], hd L198, 38, 12015)) (fun r199 => ?_)
  refine T_go (S' := (332, [(1, .inl ((10 : Int32))), (0, .inr (.inr (x0)))], [.inl ((-1 : Int32)), .inl ((10 : Int32)), .inr (.inr (r199))], hd L198, 38, 12015)) 2 rfl ?_
  refine TI_iast rfl (fun _ => ?_)
  refine T_let (Sf := fun L200 => (333, [(1, .inl ((10 : Int32))), (0, .inr (.inr (x0)))], [], hd L200, 38, 12015)) (fun L200 => ?_)
  refine T_go (S' := (334, [(1, .inl ((10 : Int32))), (0, .inr (.inr (x0)))], [.inr (.inr (x0))], hd L200, 38, 12015)) 1 rfl ?_
  refine TI_getR rfl (fun _ => ?_)
  refine T_let (Sf := fun r201 => (337, [(1, .inl ((10 : Int32))), (0, .inr (.inr (x0)))], [.inr (.inr (r201))], hd L200, 38, 12015)) (fun r201 => ?_)
  refine T_go (S' := (339, [(1, .inl ((10 : Int32))), (0, .inr (.inr (x0)))], [.inl ((-1 : Int32)), .inl ((10 : Int32)), .inr (.inr (r201))], hd L200, 38, 12015)) 2 rfl ?_
  refine TI_iast rfl (fun _ => ?_)
  refine T_let (Sf := fun L202 => (340, [(1, .inl ((10 : Int32))), (0, .inr (.inr (x0)))], [], hd L202, 38, 12015)) (fun L202 => ?_)
  refine T_go (S' := (313, [(1, .inl ((11 : Int32))), (0, .inr (.inr (x0)))], [.inr (.inr (x0))], hd L202, 38, 12015)) 6 rfl ?_
  refine TI_getR rfl (fun _ => ?_)
  refine T_let (Sf := fun r203 => (316, [(1, .inl ((11 : Int32))), (0, .inr (.inr (x0)))], [.inr (.inr (r203))], hd L202, 38, 12015)) (fun r203 => ?_)
  refine T_go (S' := (318, [(1, .inl ((11 : Int32))), (0, .inr (.inr (x0)))], [.inl ((-1 : Int32)), .inl ((11 : Int32)), .inr (.inr (r203))], hd L202, 38, 12015)) 2 rfl ?_
  refine TI_iast rfl (fun _ => ?_)
  refine T_let (Sf := fun L204 => (319, [(1, .inl ((11 : Int32))), (0, .inr (.inr (x0)))], [], hd L204, 38, 12015)) (fun L204 => ?_)
  refine T_go (S' := (320, [(1, .inl ((11 : Int32))), (0, .inr (.inr (x0)))], [.inr (.inr (x0))], hd L204, 38, 12015)) 1 rfl ?_
  refine TI_getR rfl (fun _ => ?_)
  refine T_let (Sf := fun r205 => (323, [(1, .inl ((11 : Int32))), (0, .inr (.inr (x0)))], [.inr (.inr (r205))], hd L204, 38, 12015)) (fun r205 => ?_)
  refine T_go (S' := (325, [(1, .inl ((11 : Int32))), (0, .inr (.inr (x0)))], [.inl ((-1 : Int32)), .inl ((11 : Int32)), .inr (.inr (r205))], hd L204, 38, 12015)) 2 rfl ?_
  refine TI_iast rfl (fun _ => ?_)
  refine T_let (Sf := fun L206 => (326, [(1, .inl ((11 : Int32))), (0, .inr (.inr (x0)))], [], hd L206, 38, 12015)) (fun L206 => ?_)
  refine T_go (S' := (327, [(1, .inl ((11 : Int32))), (0, .inr (.inr (x0)))], [.inr (.inr (x0))], hd L206, 38, 12015)) 1 rfl ?_
  refine TI_getR rfl (fun _ => ?_)
  refine T_let (Sf := fun r207 => (330, [(1, .inl ((11 : Int32))), (0, .inr (.inr (x0)))], [.inr (.inr (r207))], hd L206, 38, 12015)) (fun r207 => ?_)
  refine T_go (S' := (332, [(1, .inl ((11 : Int32))), (0, .inr (.inr (x0)))], [.inl ((-1 : Int32)), .inl ((11 : Int32)), .inr (.inr (r207))], hd L206, 38, 12015)) 2 rfl ?_
  refine TI_iast rfl (fun _ => ?_)
  refine T_let (Sf := fun L208 => (333, [(1, .inl ((11 : Int32))), (0, .inr (.inr (x0)))], [], hd L208, 38, 12015)) (fun L208 => ?_)
  refine T_go (S' := (334, [(1, .inl ((11 : Int32))), (0, .inr (.inr (x0)))], [.inr (.inr (x0))], hd L208, 38, 12015)) 1 rfl ?_
  refine TI_getR rfl (fun _ => ?_)
  refine T_let (Sf := fun r209 => (337, [(1, .inl ((11 : Int32))), (0, .inr (.inr (x0)))], [.inr (.inr (r209))], hd L208, 38, 12015)) (fun r209 => ?_)
  refine T_go (S' := (339, [(1, .inl ((11 : Int32))), (0, .inr (.inr (x0)))], [.inl ((-1 : Int32)), .inl ((11 : Int32)), .inr (.inr (r209))], hd L208, 38, 12015)) 2 rfl ?_
  refine TI_iast rfl (fun _ => ?_)
  refine T_let (Sf := fun L210 => (340, [(1, .inl ((11 : Int32))), (0, .inr (.inr (x0)))], [], hd L210, 38, 12015)) (fun L210 => ?_)
  refine T_go (S' := (313, [(1, .inl ((12 : Int32))), (0, .inr (.inr (x0)))], [.inr (.inr (x0))], hd L210, 38, 12015)) 6 rfl ?_
  refine TI_getR rfl (fun _ => ?_)
  refine T_let (Sf := fun r211 => (316, [(1, .inl ((12 : Int32))), (0, .inr (.inr (x0)))], [.inr (.inr (r211))], hd L210, 38, 12015)) (fun r211 => ?_)
  refine T_go (S' := (318, [(1, .inl ((12 : Int32))), (0, .inr (.inr (x0)))], [.inl ((-1 : Int32)), .inl ((12 : Int32)), .inr (.inr (r211))], hd L210, 38, 12015)) 2 rfl ?_
  refine TI_iast rfl (fun _ => ?_)
  refine T_let (Sf := fun L212 => (319, [(1, .inl ((12 : Int32))), (0, .inr (.inr (x0)))], [], hd L212, 38, 12015)) (fun L212 => ?_)
  refine T_go (S' := (320, [(1, .inl ((12 : Int32))), (0, .inr (.inr (x0)))], [.inr (.inr (x0))], hd L212, 38, 12015)) 1 rfl ?_
  refine TI_getR rfl (fun _ => ?_)
  refine T_let (Sf := fun r213 => (323, [(1, .inl ((12 : Int32))), (0, .inr (.inr (x0)))], [.inr (.inr (r213))], hd L212, 38, 12015)) (fun r213 => ?_)
  refine T_go (S' := (325, [(1, .inl ((12 : Int32))), (0, .inr (.inr (x0)))], [.inl ((-1 : Int32)), .inl ((12 : Int32)), .inr (.inr (r213))], hd L212, 38, 12015)) 2 rfl ?_
  refine TI_iast rfl (fun _ => ?_)
  refine T_let (Sf := fun L214 => (326, [(1, .inl ((12 : Int32))), (0, .inr (.inr (x0)))], [], hd L214, 38, 12015)) (fun L214 => ?_)
  refine T_go (S' := (327, [(1, .inl ((12 : Int32))), (0, .inr (.inr (x0)))], [.inr (.inr (x0))], hd L214, 38, 12015)) 1 rfl ?_
  refine TI_getR rfl (fun _ => ?_)
  refine T_let (Sf := fun r215 => (330, [(1, .inl ((12 : Int32))), (0, .inr (.inr (x0)))], [.inr (.inr (r215))], hd L214, 38, 12015)) (fun r215 => ?_)
  refine T_go (S' := (332, [(1, .inl ((12 : Int32))), (0, .inr (.inr (x0)))], [.inl ((-1 : Int32)), .inl ((12 : Int32)), .inr (.inr (r215))], hd L214, 38, 12015)) 2 rfl ?_
  refine TI_iast rfl (fun _ => ?_)
  refine T_let (Sf := fun L216 => (333, [(1, .inl ((12 : Int32))), (0, .inr (.inr (x0)))], [], hd L216, 38, 12015)) (fun L216 => ?_)
  refine T_go (S' := (334, [(1, .inl ((12 : Int32))), (0, .inr (.inr (x0)))], [.inr (.inr (x0))], hd L216, 38, 12015)) 1 rfl ?_
  refine TI_getR rfl (fun _ => ?_)
  refine T_let (Sf := fun r217 => (337, [(1, .inl ((12 : Int32))), (0, .inr (.inr (x0)))], [.inr (.inr (r217))], hd L216, 38, 12015)) (fun r217 => ?_)
  refine T_go (S' := (339, [(1, .inl ((12 : Int32))), (0, .inr (.inr (x0)))], [.inl ((-1 : Int32)), .inl ((12 : Int32)), .inr (.inr (r217))], hd L216, 38, 12015)) 2 rfl ?_
  refine TI_iast rfl (fun _ => ?_)
  refine T_let (Sf := fun L218 => (340, [(1, .inl ((12 : Int32))), (0, .inr (.inr (x0)))], [], hd L218, 38, 12015)) (fun L218 => ?_)
  refine T_go (S' := (313, [(1, .inl ((13 : Int32))), (0, .inr (.inr (x0)))], [.inr (.inr (x0))], hd L218, 38, 12015)) 6 rfl ?_
  refine TI_getR rfl (fun _ => ?_)
  refine T_let (Sf := fun r219 => (316, [(1, .inl ((13 : Int32))), (0, .inr (.inr (x0)))], [.inr (.inr (r219))], hd L218, 38, 12015)) (fun r219 => ?_)
  refine T_go (S' := (318, [(1, .inl ((13 : Int32))), (0, .inr (.inr (x0)))], [.inl ((-1 : Int32)), .inl ((13 : Int32)), .inr (.inr (r219))], hd L218, 38, 12015)) 2 rfl ?_
  refine TI_iast rfl (fun _ => ?_)
  refine T_let (Sf := fun L220 => (319, [(1, .inl ((13 : Int32))), (0, .inr (.inr (x0)))], [], hd L220, 38, 12015)) (fun L220 => ?_)
  refine T_go (S' := (320, [(1, .inl ((13 : Int32))), (0, .inr (.inr (x0)))], [.inr (.inr (x0))], hd L220, 38, 12015)) 1 rfl ?_
  refine TI_getR rfl (fun _ => ?_)
  refine T_let (Sf := fun r221 => (323, [(1, .inl ((13 : Int32))), (0, .inr (.inr (x0)))], [.inr (.inr (r221))], hd L220, 38, 12015)) (fun r221 => ?_)
  refine T_go (S' := (325, [(1, .inl ((13 : Int32))), (0, .inr (.inr (x0)))], [.inl ((-1 : Int32)), .inl ((13 : Int32)), .inr (.inr (r221))], hd L220, 38, 12015)) 2 rfl ?_
  refine TI_iast rfl (fun _ => ?_)
  refine T_let (Sf := fun L222 => (326, [(1, .inl ((13 : Int32))), (0, .inr (.inr (x0)))], [], hd L222, 38, 12015)) (fun L222 => ?_)
  refine T_go (S' := (327, [(1, .inl ((13 : Int32))), (0, .inr (.inr (x0)))], [.inr (.inr (x0))], hd L222, 38, 12015)) 1 rfl ?_
  refine TI_getR rfl (fun _ => ?_)
  refine T_let (Sf := fun r223 => (330, [(1, .inl ((13 : Int32))), (0, .inr (.inr (x0)))], [.inr (.inr (r223))], hd L222, 38, 12015)) (fun r223 => ?_)
  refine T_go (S' := (332, [(1, .inl ((13 : Int32))), (0, .inr (.inr (x0)))], [.inl ((-1 : Int32)), .inl ((13 : Int32)), .inr (.inr (r223))], hd L222, 38, 12015)) 2 rfl ?_
  refine TI_iast rfl (fun _ => ?_)
  refine T_let (Sf := fun L224 => (333, [(1, .inl ((13 : Int32))), (0, .inr (.inr (x0)))], [], hd L224, 38, 12015)) (fun L224 => ?_)
  refine T_go (S' := (334, [(1, .inl ((13 : Int32))), (0, .inr (.inr (x0)))], [.inr (.inr (x0))], hd L224, 38, 12015)) 1 rfl ?_
  refine TI_getR rfl (fun _ => ?_)
  refine T_let (Sf := fun r225 => (337, [(1, .inl ((13 : Int32))), (0, .inr (.inr (x0)))], [.inr (.inr (r225))], hd L224, 38, 12015)) (fun r225 => ?_)
  refine T_go (S' := (339, [(1, .inl ((13 : Int32))), (0, .inr (.inr (x0)))], [.inl ((-1 : Int32)), .inl ((13 : Int32)), .inr (.inr (r225))], hd L224, 38, 12015)) 2 rfl ?_
  refine TI_iast rfl (fun _ => ?_)
  refine T_let (Sf := fun L226 => (340, [(1, .inl ((13 : Int32))), (0, .inr (.inr (x0)))], [], hd L226, 38, 12015)) (fun L226 => ?_)
  refine T_go (S' := (313, [(1, .inl ((14 : Int32))), (0, .inr (.inr (x0)))], [.inr (.inr (x0))], hd L226, 38, 12015)) 6 rfl ?_
  refine TI_getR rfl (fun _ => ?_)
  refine T_let (Sf := fun r227 => (316, [(1, .inl ((14 : Int32))), (0, .inr (.inr (x0)))], [.inr (.inr (r227))], hd L226, 38, 12015)) (fun r227 => ?_)
  refine T_go (S' := (318, [(1, .inl ((14 : Int32))), (0, .inr (.inr (x0)))], [.inl ((-1 : Int32)), .inl ((14 : Int32)), .inr (.inr (r227))], hd L226, 38, 12015)) 2 rfl ?_
  refine TI_iast rfl (fun _ => ?_)
  refine T_let (Sf := fun L228 => (319, [(1, .inl ((14 : Int32))), (0, .inr (.inr (x0)))], [], hd L228, 38, 12015)) (fun L228 => ?_)
  exact s_X12_init_c6 x0 L228
set_option maxRecDepth 20000 in
def f_X12_init_c4 (x0 : Nat) (L : List eOp) : Option (List eOp) :=
  if ((hd L).2.1 x0).1 = 10 then
  eLet ((hd L).2.2.2.1 x0 4) fun r165 =>
  if ((hd L).2.1 r165).1 = 11 ∧ eix (6 : Int32) ((hd L).2.1 r165).2 = true then
  eLet ((4, r165, 6, 0, (-1 : Int32)) :: L) fun L166 =>
  if ((hd L166).2.1 x0).1 = 10 then
  eLet ((hd L166).2.2.2.1 x0 12) fun r167 =>
  if ((hd L166).2.1 r167).1 = 11 ∧ eix (6 : Int32) ((hd L166).2.1 r167).2 = true then
  eLet ((4, r167, 6, 0, (-1 : Int32)) :: L166) fun L168 =>
  if ((hd L168).2.1 x0).1 = 10 then
  eLet ((hd L168).2.2.2.1 x0 17) fun r169 =>
  if ((hd L168).2.1 r169).1 = 11 ∧ eix (6 : Int32) ((hd L168).2.1 r169).2 = true then
  eLet ((4, r169, 6, 0, (-1 : Int32)) :: L168) fun L170 =>
  if ((hd L170).2.1 x0).1 = 10 then
  eLet ((hd L170).2.2.2.1 x0 1) fun r171 =>
  if ((hd L170).2.1 r171).1 = 11 ∧ eix (7 : Int32) ((hd L170).2.1 r171).2 = true then
  eLet ((4, r171, 7, 0, (-1 : Int32)) :: L170) fun L172 =>
  if ((hd L172).2.1 x0).1 = 10 then
  eLet ((hd L172).2.2.2.1 x0 4) fun r173 =>
  if ((hd L172).2.1 r173).1 = 11 ∧ eix (7 : Int32) ((hd L172).2.1 r173).2 = true then
  eLet ((4, r173, 7, 0, (-1 : Int32)) :: L172) fun L174 =>
  if ((hd L174).2.1 x0).1 = 10 then
  eLet ((hd L174).2.2.2.1 x0 12) fun r175 =>
  if ((hd L174).2.1 r175).1 = 11 ∧ eix (7 : Int32) ((hd L174).2.1 r175).2 = true then
  eLet ((4, r175, 7, 0, (-1 : Int32)) :: L174) fun L176 =>
  if ((hd L176).2.1 x0).1 = 10 then
  eLet ((hd L176).2.2.2.1 x0 17) fun r177 =>
  if ((hd L176).2.1 r177).1 = 11 ∧ eix (7 : Int32) ((hd L176).2.1 r177).2 = true then
  eLet ((4, r177, 7, 0, (-1 : Int32)) :: L176) fun L178 =>
  if ((hd L178).2.1 x0).1 = 10 then
  eLet ((hd L178).2.2.2.1 x0 1) fun r179 =>
  if ((hd L178).2.1 r179).1 = 11 ∧ eix (8 : Int32) ((hd L178).2.1 r179).2 = true then
  eLet ((4, r179, 8, 0, (-1 : Int32)) :: L178) fun L180 =>
  if ((hd L180).2.1 x0).1 = 10 then
  eLet ((hd L180).2.2.2.1 x0 4) fun r181 =>
  if ((hd L180).2.1 r181).1 = 11 ∧ eix (8 : Int32) ((hd L180).2.1 r181).2 = true then
  eLet ((4, r181, 8, 0, (-1 : Int32)) :: L180) fun L182 =>
  if ((hd L182).2.1 x0).1 = 10 then
  eLet ((hd L182).2.2.2.1 x0 12) fun r183 =>
  if ((hd L182).2.1 r183).1 = 11 ∧ eix (8 : Int32) ((hd L182).2.1 r183).2 = true then
  eLet ((4, r183, 8, 0, (-1 : Int32)) :: L182) fun L184 =>
  if ((hd L184).2.1 x0).1 = 10 then
  eLet ((hd L184).2.2.2.1 x0 17) fun r185 =>
  if ((hd L184).2.1 r185).1 = 11 ∧ eix (8 : Int32) ((hd L184).2.1 r185).2 = true then
  eLet ((4, r185, 8, 0, (-1 : Int32)) :: L184) fun L186 =>
  if ((hd L186).2.1 x0).1 = 10 then
  eLet ((hd L186).2.2.2.1 x0 1) fun r187 =>
  if ((hd L186).2.1 r187).1 = 11 ∧ eix (9 : Int32) ((hd L186).2.1 r187).2 = true then
  eLet ((4, r187, 9, 0, (-1 : Int32)) :: L186) fun L188 =>
  if ((hd L188).2.1 x0).1 = 10 then
  eLet ((hd L188).2.2.2.1 x0 4) fun r189 =>
  if ((hd L188).2.1 r189).1 = 11 ∧ eix (9 : Int32) ((hd L188).2.1 r189).2 = true then
  eLet ((4, r189, 9, 0, (-1 : Int32)) :: L188) fun L190 =>
  if ((hd L190).2.1 x0).1 = 10 then
  eLet ((hd L190).2.2.2.1 x0 12) fun r191 =>
  if ((hd L190).2.1 r191).1 = 11 ∧ eix (9 : Int32) ((hd L190).2.1 r191).2 = true then
  eLet ((4, r191, 9, 0, (-1 : Int32)) :: L190) fun L192 =>
  if ((hd L192).2.1 x0).1 = 10 then
  eLet ((hd L192).2.2.2.1 x0 17) fun r193 =>
  if ((hd L192).2.1 r193).1 = 11 ∧ eix (9 : Int32) ((hd L192).2.1 r193).2 = true then
  eLet ((4, r193, 9, 0, (-1 : Int32)) :: L192) fun L194 =>
  if ((hd L194).2.1 x0).1 = 10 then
  eLet ((hd L194).2.2.2.1 x0 1) fun r195 =>
  if ((hd L194).2.1 r195).1 = 11 ∧ eix (10 : Int32) ((hd L194).2.1 r195).2 = true then
  eLet ((4, r195, 10, 0, (-1 : Int32)) :: L194) fun L196 =>
  f_X12_init_c5 x0 L196
  else none
  else none
  else none
  else none
  else none
  else none
  else none
  else none
  else none
  else none
  else none
  else none
  else none
  else none
  else none
  else none
  else none
  else none
  else none
  else none
  else none
  else none
  else none
  else none
  else none
  else none
  else none
  else none
  else none
  else none
  else none
  else none
set_option maxHeartbeats 4000000 in
set_option maxRecDepth 20000 in
theorem s_X12_init_c4 (x0 : Nat) (L : List eOp) : Snd true none 0 m_X12_init (f_X12_init_c4 x0 L) cI (319, [(1, .inl ((6 : Int32))), (0, .inr (.inr (x0)))], [], hd L, 38, 12015) := by
  unfold f_X12_init_c4
  refine T_go (S' := (320, [(1, .inl ((6 : Int32))), (0, .inr (.inr (x0)))], [.inr (.inr (x0))], hd L, 38, 12015)) 1 rfl ?_
  refine TI_getR rfl (fun _ => ?_)
  refine T_let (Sf := fun r165 => (323, [(1, .inl ((6 : Int32))), (0, .inr (.inr (x0)))], [.inr (.inr (r165))], hd L, 38, 12015)) (fun r165 => ?_)
  refine T_go (S' := (325, [(1, .inl ((6 : Int32))), (0, .inr (.inr (x0)))], [.inl ((-1 : Int32)), .inl ((6 : Int32)), .inr (.inr (r165))], hd L, 38, 12015)) 2 rfl ?_
  refine TI_iast rfl (fun _ => ?_)
  refine T_let (Sf := fun L166 => (326, [(1, .inl ((6 : Int32))), (0, .inr (.inr (x0)))], [], hd L166, 38, 12015)) (fun L166 => ?_)
  refine T_go (S' := (327, [(1, .inl ((6 : Int32))), (0, .inr (.inr (x0)))], [.inr (.inr (x0))], hd L166, 38, 12015)) 1 rfl ?_
  refine TI_getR rfl (fun _ => ?_)
  refine T_let (Sf := fun r167 => (330, [(1, .inl ((6 : Int32))), (0, .inr (.inr (x0)))], [.inr (.inr (r167))], hd L166, 38, 12015)) (fun r167 => ?_)
  refine T_go (S' := (332, [(1, .inl ((6 : Int32))), (0, .inr (.inr (x0)))], [.inl ((-1 : Int32)), .inl ((6 : Int32)), .inr (.inr (r167))], hd L166, 38, 12015)) 2 rfl ?_
  refine TI_iast rfl (fun _ => ?_)
  refine T_let (Sf := fun L168 => (333, [(1, .inl ((6 : Int32))), (0, .inr (.inr (x0)))], [], hd L168, 38, 12015)) (fun L168 => ?_)
  refine T_go (S' := (334, [(1, .inl ((6 : Int32))), (0, .inr (.inr (x0)))], [.inr (.inr (x0))], hd L168, 38, 12015)) 1 rfl ?_
  refine TI_getR rfl (fun _ => ?_)
  refine T_let (Sf := fun r169 => (337, [(1, .inl ((6 : Int32))), (0, .inr (.inr (x0)))], [.inr (.inr (r169))], hd L168, 38, 12015)) (fun r169 => ?_)
  refine T_go (S' := (339, [(1, .inl ((6 : Int32))), (0, .inr (.inr (x0)))], [.inl ((-1 : Int32)), .inl ((6 : Int32)), .inr (.inr (r169))], hd L168, 38, 12015)) 2 rfl ?_
  refine TI_iast rfl (fun _ => ?_)
  refine T_let (Sf := fun L170 => (340, [(1, .inl ((6 : Int32))), (0, .inr (.inr (x0)))], [], hd L170, 38, 12015)) (fun L170 => ?_)
  refine T_go (S' := (313, [(1, .inl ((7 : Int32))), (0, .inr (.inr (x0)))], [.inr (.inr (x0))], hd L170, 38, 12015)) 6 rfl ?_
  refine TI_getR rfl (fun _ => ?_)
  refine T_let (Sf := fun r171 => (316, [(1, .inl ((7 : Int32))), (0, .inr (.inr (x0)))], [.inr (.inr (r171))], hd L170, 38, 12015)) (fun r171 => ?_)
  refine T_go (S' := (318, [(1, .inl ((7 : Int32))), (0, .inr (.inr (x0)))], [.inl ((-1 : Int32)), .inl ((7 : Int32)), .inr (.inr (r171))], hd L170, 38, 12015)) 2 rfl ?_
  refine TI_iast rfl (fun _ => ?_)
  refine T_let (Sf := fun L172 => (319, [(1, .inl ((7 : Int32))), (0, .inr (.inr (x0)))], [], hd L172, 38, 12015)) (fun L172 => ?_)
  refine T_go (S' := (320, [(1, .inl ((7 : Int32))), (0, .inr (.inr (x0)))], [.inr (.inr (x0))], hd L172, 38, 12015)) 1 rfl ?_
  refine TI_getR rfl (fun _ => ?_)
  refine T_let (Sf := fun r173 => (323, [(1, .inl ((7 : Int32))), (0, .inr (.inr (x0)))], [.inr (.inr (r173))], hd L172, 38, 12015)) (fun r173 => ?_)
  refine T_go (S' := (325, [(1, .inl ((7 : Int32))), (0, .inr (.inr (x0)))], [.inl ((-1 : Int32)), .inl ((7 : Int32)), .inr (.inr (r173))], hd L172, 38, 12015)) 2 rfl ?_
  refine TI_iast rfl (fun _ => ?_)
  refine T_let (Sf := fun L174 => (326, [(1, .inl ((7 : Int32))), (0, .inr (.inr (x0)))], [], hd L174, 38, 12015)) (fun L174 => ?_)
  refine T_go (S' := (327, [(1, .inl ((7 : Int32))), (0, .inr (.inr (x0)))], [.inr (.inr (x0))], hd L174, 38, 12015)) 1 rfl ?_
  refine TI_getR rfl (fun _ => ?_)
  refine T_let (Sf := fun r175 => (330, [(1, .inl ((7 : Int32))), (0, .inr (.inr (x0)))], [.inr (.inr (r175))], hd L174, 38, 12015)) (fun r175 => ?_)
  refine T_go (S' := (332, [(1, .inl ((7 : Int32))), (0, .inr (.inr (x0)))], [.inl ((-1 : Int32)), .inl ((7 : Int32)), .inr (.inr (r175))], hd L174, 38, 12015)) 2 rfl ?_
  refine TI_iast rfl (fun _ => ?_)
  refine T_let (Sf := fun L176 => (333, [(1, .inl ((7 : Int32))), (0, .inr (.inr (x0)))], [], hd L176, 38, 12015)) (fun L176 => ?_)
  refine T_go (S' := (334, [(1, .inl ((7 : Int32))), (0, .inr (.inr (x0)))], [.inr (.inr (x0))], hd L176, 38, 12015)) 1 rfl ?_
  refine TI_getR rfl (fun _ => ?_)
  refine T_let (Sf := fun r177 => (337, [(1, .inl ((7 : Int32))), (0, .inr (.inr (x0)))], [.inr (.inr (r177))], hd L176, 38, 12015)) (fun r177 => ?_)
  refine T_go (S' := (339, [(1, .inl ((7 : Int32))), (0, .inr (.inr (x0)))], [.inl ((-1 : Int32)), .inl ((7 : Int32)), .inr (.inr (r177))], hd L176, 38, 12015)) 2 rfl ?_
  refine TI_iast rfl (fun _ => ?_)
  refine T_let (Sf := fun L178 => (340, [(1, .inl ((7 : Int32))), (0, .inr (.inr (x0)))], [], hd L178, 38, 12015)) (fun L178 => ?_)
  refine T_go (S' := (313, [(1, .inl ((8 : Int32))), (0, .inr (.inr (x0)))], [.inr (.inr (x0))], hd L178, 38, 12015)) 6 rfl ?_
  refine TI_getR rfl (fun _ => ?_)
  refine T_let (Sf := fun r179 => (316, [(1, .inl ((8 : Int32))), (0, .inr (.inr (x0)))], [.inr (.inr (r179))], hd L178, 38, 12015)) (fun r179 => ?_)
  refine T_go (S' := (318, [(1, .inl ((8 : Int32))), (0, .inr (.inr (x0)))], [.inl ((-1 : Int32)), .inl ((8 : Int32)), .inr (.inr (r179))], hd L178, 38, 12015)) 2 rfl ?_
  refine TI_iast rfl (fun _ => ?_)
  refine T_let (Sf := fun L180 => (319, [(1, .inl ((8 : Int32))), (0, .inr (.inr (x0)))], [], hd L180, 38, 12015)) (fun L180 => ?_)
  refine T_go (S' := (320, [(1, .inl ((8 : Int32))), (0, .inr (.inr (x0)))], [.inr (.inr (x0))], hd L180, 38, 12015)) 1 rfl ?_
  refine TI_getR rfl (fun _ => ?_)
  refine T_let (Sf := fun r181 => (323, [(1, .inl ((8 : Int32))), (0, .inr (.inr (x0)))], [.inr (.inr (r181))], hd L180, 38, 12015)) (fun r181 => ?_)
  refine T_go (S' := (325, [(1, .inl ((8 : Int32))), (0, .inr (.inr (x0)))], [.inl ((-1 : Int32)), .inl ((8 : Int32)), .inr (.inr (r181))], hd L180, 38, 12015)) 2 rfl ?_
  refine TI_iast rfl (fun _ => ?_)
  refine T_let (Sf := fun L182 => (326, [(1, .inl ((8 : Int32))), (0, .inr (.inr (x0)))], [], hd L182, 38, 12015)) (fun L182 => ?_)
  refine T_go (S' := (327, [(1, .inl ((8 : Int32))), (0, .inr (.inr (x0)))], [.inr (.inr (x0))], hd L182, 38, 12015)) 1 rfl ?_
  refine TI_getR rfl (fun _ => ?_)
  refine T_let (Sf := fun r183 => (330, [(1, .inl ((8 : Int32))), (0, .inr (.inr (x0)))], [.inr (.inr (r183))], hd L182, 38, 12015)) (fun r183 => ?_)
  refine T_go (S' := (332, [(1, .inl ((8 : Int32))), (0, .inr (.inr (x0)))], [.inl ((-1 : Int32)), .inl ((8 : Int32)), .inr (.inr (r183))], hd L182, 38, 12015)) 2 rfl ?_
  refine TI_iast rfl (fun _ => ?_)
  refine T_let (Sf := fun L184 => (333, [(1, .inl ((8 : Int32))), (0, .inr (.inr (x0)))], [], hd L184, 38, 12015)) (fun L184 => ?_)
  refine T_go (S' := (334, [(1, .inl ((8 : Int32))), (0, .inr (.inr (x0)))], [.inr (.inr (x0))], hd L184, 38, 12015)) 1 rfl ?_
  refine TI_getR rfl (fun _ => ?_)
  refine T_let (Sf := fun r185 => (337, [(1, .inl ((8 : Int32))), (0, .inr (.inr (x0)))], [.inr (.inr (r185))], hd L184, 38, 12015)) (fun r185 => ?_)
  refine T_go (S' := (339, [(1, .inl ((8 : Int32))), (0, .inr (.inr (x0)))], [.inl ((-1 : Int32)), .inl ((8 : Int32)), .inr (.inr (r185))], hd L184, 38, 12015)) 2 rfl ?_
  refine TI_iast rfl (fun _ => ?_)
  refine T_let (Sf := fun L186 => (340, [(1, .inl ((8 : Int32))), (0, .inr (.inr (x0)))], [], hd L186, 38, 12015)) (fun L186 => ?_)
  refine T_go (S' := (313, [(1, .inl ((9 : Int32))), (0, .inr (.inr (x0)))], [.inr (.inr (x0))], hd L186, 38, 12015)) 6 rfl ?_
  refine TI_getR rfl (fun _ => ?_)
  refine T_let (Sf := fun r187 => (316, [(1, .inl ((9 : Int32))), (0, .inr (.inr (x0)))], [.inr (.inr (r187))], hd L186, 38, 12015)) (fun r187 => ?_)
  refine T_go (S' := (318, [(1, .inl ((9 : Int32))), (0, .inr (.inr (x0)))], [.inl ((-1 : Int32)), .inl ((9 : Int32)), .inr (.inr (r187))], hd L186, 38, 12015)) 2 rfl ?_
  refine TI_iast rfl (fun _ => ?_)
  refine T_let (Sf := fun L188 => (319, [(1, .inl ((9 : Int32))), (0, .inr (.inr (x0)))], [], hd L188, 38, 12015)) (fun L188 => ?_)
  refine T_go (S' := (320, [(1, .inl ((9 : Int32))), (0, .inr (.inr (x0)))], [.inr (.inr (x0))], hd L188, 38, 12015)) 1 rfl ?_
  refine TI_getR rfl (fun _ => ?_)
  refine T_let (Sf := fun r189 => (323, [(1, .inl ((9 : Int32))), (0, .inr (.inr (x0)))], [.inr (.inr (r189))], hd L188, 38, 12015)) (fun r189 => ?_)
  refine T_go (S' := (325, [(1, .inl ((9 : Int32))), (0, .inr (.inr (x0)))], [.inl ((-1 : Int32)), .inl ((9 : Int32)), .inr (.inr (r189))], hd L188, 38, 12015)) 2 rfl ?_
  refine TI_iast rfl (fun _ => ?_)
  refine T_let (Sf := fun L190 => (326, [(1, .inl ((9 : Int32))), (0, .inr (.inr (x0)))], [], hd L190, 38, 12015)) (fun L190 => ?_)
  refine T_go (S' := (327, [(1, .inl ((9 : Int32))), (0, .inr (.inr (x0)))], [.inr (.inr (x0))], hd L190, 38, 12015)) 1 rfl ?_
  refine TI_getR rfl (fun _ => ?_)
  refine T_let (Sf := fun r191 => (330, [(1, .inl ((9 : Int32))), (0, .inr (.inr (x0)))], [.inr (.inr (r191))], hd L190, 38, 12015)) (fun r191 => ?_)
  refine T_go (S' := (332, [(1, .inl ((9 : Int32))), (0, .inr (.inr (x0)))], [.inl ((-1 : Int32)), .inl ((9 : Int32)), .inr (.inr (r191))], hd L190, 38, 12015)) 2 rfl ?_
  refine TI_iast rfl (fun _ => ?_)
  refine T_let (Sf := fun L192 => (333, [(1, .inl ((9 : Int32))), (0, .inr (.inr (x0)))], [], hd L192, 38, 12015)) (fun L192 => ?_)
  refine T_go (S' := (334, [(1, .inl ((9 : Int32))), (0, .inr (.inr (x0)))], [.inr (.inr (x0))], hd L192, 38, 12015)) 1 rfl ?_
  refine TI_getR rfl (fun _ => ?_)
  refine T_let (Sf := fun r193 => (337, [(1, .inl ((9 : Int32))), (0, .inr (.inr (x0)))], [.inr (.inr (r193))], hd L192, 38, 12015)) (fun r193 => ?_)
  refine T_go (S' := (339, [(1, .inl ((9 : Int32))), (0, .inr (.inr (x0)))], [.inl ((-1 : Int32)), .inl ((9 : Int32)), .inr (.inr (r193))], hd L192, 38, 12015)) 2 rfl ?_
  refine TI_iast rfl (fun _ => ?_)
  refine T_let (Sf := fun L194 => (340, [(1, .inl ((9 : Int32))), (0, .inr (.inr (x0)))], [], hd L194, 38, 12015)) (fun L194 => ?_)
  refine T_go (S' := (313, [(1, .inl ((10 : Int32))), (0, .inr (.inr (x0)))], [.inr (.inr (x0))], hd L194, 38, 12015)) 6 rfl ?_
  refine TI_getR rfl (fun _ => ?_)
  refine T_let (Sf := fun r195 => (316, [(1, .inl ((10 : Int32))), (0, .inr (.inr (x0)))], [.inr (.inr (r195))], hd L194, 38, 12015)) (fun r195 => ?_)
  refine T_go (S' := (318, [(1, .inl ((10 : Int32))), (0, .inr (.inr (x0)))], [.inl ((-1 : Int32)), .inl ((10 : Int32)), .inr (.inr (r195))], hd L194, 38, 12015)) 2 rfl ?_
  refine TI_iast rfl (fun _ => ?_)
  refine T_let (Sf := fun L196 => (319, [(1, .inl ((10 : Int32))), (0, .inr (.inr (x0)))], [], hd L196, 38, 12015)) (fun L196 => ?_)
  exact s_X12_init_c5 x0 L196
set_option maxRecDepth 20000 in
def f_X12_init_c3 (x0 : Nat) (L : List eOp) : Option (List eOp) :=
  if ((hd L).2.1 x0).1 = 10 then
  eLet ((hd L).2.2.2.1 x0 4) fun r133 =>
  if ((hd L).2.1 r133).1 = 11 ∧ eix (2 : Int32) ((hd L).2.1 r133).2 = true then
  eLet ((4, r133, 2, 0, (-1 : Int32)) :: L) fun L134 =>
  if ((hd L134).2.1 x0).1 = 10 then
  eLet ((hd L134).2.2.2.1 x0 12) fun r135 =>
  if ((hd L134).2.1 r135).1 = 11 ∧ eix (2 : Int32) ((hd L134).2.1 r135).2 = true then
  eLet ((4, r135, 2, 0, (-1 : Int32)) :: L134) fun L136 =>
  if ((hd L136).2.1 x0).1 = 10 then
  eLet ((hd L136).2.2.2.1 x0 17) fun r137 =>
  if ((hd L136).2.1 r137).1 = 11 ∧ eix (2 : Int32) ((hd L136).2.1 r137).2 = true then
  eLet ((4, r137, 2, 0, (-1 : Int32)) :: L136) fun L138 =>
  if ((hd L138).2.1 x0).1 = 10 then
  eLet ((hd L138).2.2.2.1 x0 1) fun r139 =>
  if ((hd L138).2.1 r139).1 = 11 ∧ eix (3 : Int32) ((hd L138).2.1 r139).2 = true then
  eLet ((4, r139, 3, 0, (-1 : Int32)) :: L138) fun L140 =>
  if ((hd L140).2.1 x0).1 = 10 then
  eLet ((hd L140).2.2.2.1 x0 4) fun r141 =>
  if ((hd L140).2.1 r141).1 = 11 ∧ eix (3 : Int32) ((hd L140).2.1 r141).2 = true then
  eLet ((4, r141, 3, 0, (-1 : Int32)) :: L140) fun L142 =>
  if ((hd L142).2.1 x0).1 = 10 then
  eLet ((hd L142).2.2.2.1 x0 12) fun r143 =>
  if ((hd L142).2.1 r143).1 = 11 ∧ eix (3 : Int32) ((hd L142).2.1 r143).2 = true then
  eLet ((4, r143, 3, 0, (-1 : Int32)) :: L142) fun L144 =>
  if ((hd L144).2.1 x0).1 = 10 then
  eLet ((hd L144).2.2.2.1 x0 17) fun r145 =>
  if ((hd L144).2.1 r145).1 = 11 ∧ eix (3 : Int32) ((hd L144).2.1 r145).2 = true then
  eLet ((4, r145, 3, 0, (-1 : Int32)) :: L144) fun L146 =>
  if ((hd L146).2.1 x0).1 = 10 then
  eLet ((hd L146).2.2.2.1 x0 1) fun r147 =>
  if ((hd L146).2.1 r147).1 = 11 ∧ eix (4 : Int32) ((hd L146).2.1 r147).2 = true then
  eLet ((4, r147, 4, 0, (-1 : Int32)) :: L146) fun L148 =>
  if ((hd L148).2.1 x0).1 = 10 then
  eLet ((hd L148).2.2.2.1 x0 4) fun r149 =>
  if ((hd L148).2.1 r149).1 = 11 ∧ eix (4 : Int32) ((hd L148).2.1 r149).2 = true then
  eLet ((4, r149, 4, 0, (-1 : Int32)) :: L148) fun L150 =>
  if ((hd L150).2.1 x0).1 = 10 then
  eLet ((hd L150).2.2.2.1 x0 12) fun r151 =>
  if ((hd L150).2.1 r151).1 = 11 ∧ eix (4 : Int32) ((hd L150).2.1 r151).2 = true then
  eLet ((4, r151, 4, 0, (-1 : Int32)) :: L150) fun L152 =>
  if ((hd L152).2.1 x0).1 = 10 then
  eLet ((hd L152).2.2.2.1 x0 17) fun r153 =>
  if ((hd L152).2.1 r153).1 = 11 ∧ eix (4 : Int32) ((hd L152).2.1 r153).2 = true then
  eLet ((4, r153, 4, 0, (-1 : Int32)) :: L152) fun L154 =>
  if ((hd L154).2.1 x0).1 = 10 then
  eLet ((hd L154).2.2.2.1 x0 1) fun r155 =>
  if ((hd L154).2.1 r155).1 = 11 ∧ eix (5 : Int32) ((hd L154).2.1 r155).2 = true then
  eLet ((4, r155, 5, 0, (-1 : Int32)) :: L154) fun L156 =>
  if ((hd L156).2.1 x0).1 = 10 then
  eLet ((hd L156).2.2.2.1 x0 4) fun r157 =>
  if ((hd L156).2.1 r157).1 = 11 ∧ eix (5 : Int32) ((hd L156).2.1 r157).2 = true then
  eLet ((4, r157, 5, 0, (-1 : Int32)) :: L156) fun L158 =>
  if ((hd L158).2.1 x0).1 = 10 then
  eLet ((hd L158).2.2.2.1 x0 12) fun r159 =>
  if ((hd L158).2.1 r159).1 = 11 ∧ eix (5 : Int32) ((hd L158).2.1 r159).2 = true then
  eLet ((4, r159, 5, 0, (-1 : Int32)) :: L158) fun L160 =>
  if ((hd L160).2.1 x0).1 = 10 then
  eLet ((hd L160).2.2.2.1 x0 17) fun r161 =>
  if ((hd L160).2.1 r161).1 = 11 ∧ eix (5 : Int32) ((hd L160).2.1 r161).2 = true then
  eLet ((4, r161, 5, 0, (-1 : Int32)) :: L160) fun L162 =>
  if ((hd L162).2.1 x0).1 = 10 then
  eLet ((hd L162).2.2.2.1 x0 1) fun r163 =>
  if ((hd L162).2.1 r163).1 = 11 ∧ eix (6 : Int32) ((hd L162).2.1 r163).2 = true then
  eLet ((4, r163, 6, 0, (-1 : Int32)) :: L162) fun L164 =>
  f_X12_init_c4 x0 L164
  else none
  else none
  else none
  else none
  else none
  else none
  else none
  else none
  else none
  else none
  else none
  else none
  else none
  else none
  else none
  else none
  else none
  else none
  else none
  else none
  else none
  else none
  else none
  else none
  else none
  else none
  else none
  else none
  else none
  else none
  else none
  else none
set_option maxHeartbeats 4000000 in
set_option maxRecDepth 20000 in
theorem s_X12_init_c3 (x0 : Nat) (L : List eOp) : Snd true none 0 m_X12_init (f_X12_init_c3 x0 L) cI (319, [(1, .inl ((2 : Int32))), (0, .inr (.inr (x0)))], [], hd L, 38, 12015) := by
  unfold f_X12_init_c3
  refine T_go (S' := (320, [(1, .inl ((2 : Int32))), (0, .inr (.inr (x0)))], [.inr (.inr (x0))], hd L, 38, 12015)) 1 rfl ?_
  refine TI_getR rfl (fun _ => ?_)
  refine T_let (Sf := fun r133 => (323, [(1, .inl ((2 : Int32))), (0, .inr (.inr (x0)))], [.inr (.inr (r133))], hd L, 38, 12015)) (fun r133 => ?_)
  refine T_go (S' := (325, [(1, .inl ((2 : Int32))), (0, .inr (.inr (x0)))], [.inl ((-1 : Int32)), .inl ((2 : Int32)), .inr (.inr (r133))], hd L, 38, 12015)) 2 rfl ?_
  refine TI_iast rfl (fun _ => ?_)
  refine T_let (Sf := fun L134 => (326, [(1, .inl ((2 : Int32))), (0, .inr (.inr (x0)))], [], hd L134, 38, 12015)) (fun L134 => ?_)
  refine T_go (S' := (327, [(1, .inl ((2 : Int32))), (0, .inr (.inr (x0)))], [.inr (.inr (x0))], hd L134, 38, 12015)) 1 rfl ?_
  refine TI_getR rfl (fun _ => ?_)
  refine T_let (Sf := fun r135 => (330, [(1, .inl ((2 : Int32))), (0, .inr (.inr (x0)))], [.inr (.inr (r135))], hd L134, 38, 12015)) (fun r135 => ?_)
  refine T_go (S' := (332, [(1, .inl ((2 : Int32))), (0, .inr (.inr (x0)))], [.inl ((-1 : Int32)), .inl ((2 : Int32)), .inr (.inr (r135))], hd L134, 38, 12015)) 2 rfl ?_
  refine TI_iast rfl (fun _ => ?_)
  refine T_let (Sf := fun L136 => (333, [(1, .inl ((2 : Int32))), (0, .inr (.inr (x0)))], [], hd L136, 38, 12015)) (fun L136 => ?_)
  refine T_go (S' := (334, [(1, .inl ((2 : Int32))), (0, .inr (.inr (x0)))], [.inr (.inr (x0))], hd L136, 38, 12015)) 1 rfl ?_
  refine TI_getR rfl (fun _ => ?_)
  refine T_let (Sf := fun r137 => (337, [(1, .inl ((2 : Int32))), (0, .inr (.inr (x0)))], [.inr (.inr (r137))], hd L136, 38, 12015)) (fun r137 => ?_)
  refine T_go (S' := (339, [(1, .inl ((2 : Int32))), (0, .inr (.inr (x0)))], [.inl ((-1 : Int32)), .inl ((2 : Int32)), .inr (.inr (r137))], hd L136, 38, 12015)) 2 rfl ?_
  refine TI_iast rfl (fun _ => ?_)
  refine T_let (Sf := fun L138 => (340, [(1, .inl ((2 : Int32))), (0, .inr (.inr (x0)))], [], hd L138, 38, 12015)) (fun L138 => ?_)
  refine T_go (S' := (313, [(1, .inl ((3 : Int32))), (0, .inr (.inr (x0)))], [.inr (.inr (x0))], hd L138, 38, 12015)) 6 rfl ?_
  refine TI_getR rfl (fun _ => ?_)
  refine T_let (Sf := fun r139 => (316, [(1, .inl ((3 : Int32))), (0, .inr (.inr (x0)))], [.inr (.inr (r139))], hd L138, 38, 12015)) (fun r139 => ?_)
  refine T_go (S' := (318, [(1, .inl ((3 : Int32))), (0, .inr (.inr (x0)))], [.inl ((-1 : Int32)), .inl ((3 : Int32)), .inr (.inr (r139))], hd L138, 38, 12015)) 2 rfl ?_
  refine TI_iast rfl (fun _ => ?_)
  refine T_let (Sf := fun L140 => (319, [(1, .inl ((3 : Int32))), (0, .inr (.inr (x0)))], [], hd L140, 38, 12015)) (fun L140 => ?_)
  refine T_go (S' := (320, [(1, .inl ((3 : Int32))), (0, .inr (.inr (x0)))], [.inr (.inr (x0))], hd L140, 38, 12015)) 1 rfl ?_
  refine TI_getR rfl (fun _ => ?_)
  refine T_let (Sf := fun r141 => (323, [(1, .inl ((3 : Int32))), (0, .inr (.inr (x0)))], [.inr (.inr (r141))], hd L140, 38, 12015)) (fun r141 => ?_)
  refine T_go (S' := (325, [(1, .inl ((3 : Int32))), (0, .inr (.inr (x0)))], [.inl ((-1 : Int32)), .inl ((3 : Int32)), .inr (.inr (r141))], hd L140, 38, 12015)) 2 rfl ?_
  refine TI_iast rfl (fun _ => ?_)
  refine T_let (Sf := fun L142 => (326, [(1, .inl ((3 : Int32))), (0, .inr (.inr (x0)))], [], hd L142, 38, 12015)) (fun L142 => ?_)
  refine T_go (S' := (327, [(1, .inl ((3 : Int32))), (0, .inr (.inr (x0)))], [.inr (.inr (x0))], hd L142, 38, 12015)) 1 rfl ?_
  refine TI_getR rfl (fun _ => ?_)
  refine T_let (Sf := fun r143 => (330, [(1, .inl ((3 : Int32))), (0, .inr (.inr (x0)))], [.inr (.inr (r143))], hd L142, 38, 12015)) (fun r143 => ?_)
  refine T_go (S' := (332, [(1, .inl ((3 : Int32))), (0, .inr (.inr (x0)))], [.inl ((-1 : Int32)), .inl ((3 : Int32)), .inr (.inr (r143))], hd L142, 38, 12015)) 2 rfl ?_
  refine TI_iast rfl (fun _ => ?_)
  refine T_let (Sf := fun L144 => (333, [(1, .inl ((3 : Int32))), (0, .inr (.inr (x0)))], [], hd L144, 38, 12015)) (fun L144 => ?_)
  refine T_go (S' := (334, [(1, .inl ((3 : Int32))), (0, .inr (.inr (x0)))], [.inr (.inr (x0))], hd L144, 38, 12015)) 1 rfl ?_
  refine TI_getR rfl (fun _ => ?_)
  refine T_let (Sf := fun r145 => (337, [(1, .inl ((3 : Int32))), (0, .inr (.inr (x0)))], [.inr (.inr (r145))], hd L144, 38, 12015)) (fun r145 => ?_)
  refine T_go (S' := (339, [(1, .inl ((3 : Int32))), (0, .inr (.inr (x0)))], [.inl ((-1 : Int32)), .inl ((3 : Int32)), .inr (.inr (r145))], hd L144, 38, 12015)) 2 rfl ?_
  refine TI_iast rfl (fun _ => ?_)
  refine T_let (Sf := fun L146 => (340, [(1, .inl ((3 : Int32))), (0, .inr (.inr (x0)))], [], hd L146, 38, 12015)) (fun L146 => ?_)
  refine T_go (S' := (313, [(1, .inl ((4 : Int32))), (0, .inr (.inr (x0)))], [.inr (.inr (x0))], hd L146, 38, 12015)) 6 rfl ?_
  refine TI_getR rfl (fun _ => ?_)
  refine T_let (Sf := fun r147 => (316, [(1, .inl ((4 : Int32))), (0, .inr (.inr (x0)))], [.inr (.inr (r147))], hd L146, 38, 12015)) (fun r147 => ?_)
  refine T_go (S' := (318, [(1, .inl ((4 : Int32))), (0, .inr (.inr (x0)))], [.inl ((-1 : Int32)), .inl ((4 : Int32)), .inr (.inr (r147))], hd L146, 38, 12015)) 2 rfl ?_
  refine TI_iast rfl (fun _ => ?_)
  refine T_let (Sf := fun L148 => (319, [(1, .inl ((4 : Int32))), (0, .inr (.inr (x0)))], [], hd L148, 38, 12015)) (fun L148 => ?_)
  refine T_go (S' := (320, [(1, .inl ((4 : Int32))), (0, .inr (.inr (x0)))], [.inr (.inr (x0))], hd L148, 38, 12015)) 1 rfl ?_
  refine TI_getR rfl (fun _ => ?_)
  refine T_let (Sf := fun r149 => (323, [(1, .inl ((4 : Int32))), (0, .inr (.inr (x0)))], [.inr (.inr (r149))], hd L148, 38, 12015)) (fun r149 => ?_)
  refine T_go (S' := (325, [(1, .inl ((4 : Int32))), (0, .inr (.inr (x0)))], [.inl ((-1 : Int32)), .inl ((4 : Int32)), .inr (.inr (r149))], hd L148, 38, 12015)) 2 rfl ?_
  refine TI_iast rfl (fun _ => ?_)
  refine T_let (Sf := fun L150 => (326, [(1, .inl ((4 : Int32))), (0, .inr (.inr (x0)))], [], hd L150, 38, 12015)) (fun L150 => ?_)
  refine T_go (S' := (327, [(1, .inl ((4 : Int32))), (0, .inr (.inr (x0)))], [.inr (.inr (x0))], hd L150, 38, 12015)) 1 rfl ?_
  refine TI_getR rfl (fun _ => ?_)
  refine T_let (Sf := fun r151 => (330, [(1, .inl ((4 : Int32))), (0, .inr (.inr (x0)))], [.inr (.inr (r151))], hd L150, 38, 12015)) (fun r151 => ?_)
  refine T_go (S' := (332, [(1, .inl ((4 : Int32))), (0, .inr (.inr (x0)))], [.inl ((-1 : Int32)), .inl ((4 : Int32)), .inr (.inr (r151))], hd L150, 38, 12015)) 2 rfl ?_
  refine TI_iast rfl (fun _ => ?_)
  refine T_let (Sf := fun L152 => (333, [(1, .inl ((4 : Int32))), (0, .inr (.inr (x0)))], [], hd L152, 38, 12015)) (fun L152 => ?_)
  refine T_go (S' := (334, [(1, .inl ((4 : Int32))), (0, .inr (.inr (x0)))], [.inr (.inr (x0))], hd L152, 38, 12015)) 1 rfl ?_
  refine TI_getR rfl (fun _ => ?_)
  refine T_let (Sf := fun r153 => (337, [(1, .inl ((4 : Int32))), (0, .inr (.inr (x0)))], [.inr (.inr (r153))], hd L152, 38, 12015)) (fun r153 => ?_)
  refine T_go (S' := (339, [(1, .inl ((4 : Int32))), (0, .inr (.inr (x0)))], [.inl ((-1 : Int32)), .inl ((4 : Int32)), .inr (.inr (r153))], hd L152, 38, 12015)) 2 rfl ?_
  refine TI_iast rfl (fun _ => ?_)
  refine T_let (Sf := fun L154 => (340, [(1, .inl ((4 : Int32))), (0, .inr (.inr (x0)))], [], hd L154, 38, 12015)) (fun L154 => ?_)
  refine T_go (S' := (313, [(1, .inl ((5 : Int32))), (0, .inr (.inr (x0)))], [.inr (.inr (x0))], hd L154, 38, 12015)) 6 rfl ?_
  refine TI_getR rfl (fun _ => ?_)
  refine T_let (Sf := fun r155 => (316, [(1, .inl ((5 : Int32))), (0, .inr (.inr (x0)))], [.inr (.inr (r155))], hd L154, 38, 12015)) (fun r155 => ?_)
  refine T_go (S' := (318, [(1, .inl ((5 : Int32))), (0, .inr (.inr (x0)))], [.inl ((-1 : Int32)), .inl ((5 : Int32)), .inr (.inr (r155))], hd L154, 38, 12015)) 2 rfl ?_
  refine TI_iast rfl (fun _ => ?_)
  refine T_let (Sf := fun L156 => (319, [(1, .inl ((5 : Int32))), (0, .inr (.inr (x0)))], [], hd L156, 38, 12015)) (fun L156 => ?_)
  refine T_go (S' := (320, [(1, .inl ((5 : Int32))), (0, .inr (.inr (x0)))], [.inr (.inr (x0))], hd L156, 38, 12015)) 1 rfl ?_
  refine TI_getR rfl (fun _ => ?_)
  refine T_let (Sf := fun r157 => (323, [(1, .inl ((5 : Int32))), (0, .inr (.inr (x0)))], [.inr (.inr (r157))], hd L156, 38, 12015)) (fun r157 => ?_)
  refine T_go (S' := (325, [(1, .inl ((5 : Int32))), (0, .inr (.inr (x0)))], [.inl ((-1 : Int32)), .inl ((5 : Int32)), .inr (.inr (r157))], hd L156, 38, 12015)) 2 rfl ?_
  refine TI_iast rfl (fun _ => ?_)
  refine T_let (Sf := fun L158 => (326, [(1, .inl ((5 : Int32))), (0, .inr (.inr (x0)))], [], hd L158, 38, 12015)) (fun L158 => ?_)
  refine T_go (S' := (327, [(1, .inl ((5 : Int32))), (0, .inr (.inr (x0)))], [.inr (.inr (x0))], hd L158, 38, 12015)) 1 rfl ?_
  refine TI_getR rfl (fun _ => ?_)
  refine T_let (Sf := fun r159 => (330, [(1, .inl ((5 : Int32))), (0, .inr (.inr (x0)))], [.inr (.inr (r159))], hd L158, 38, 12015)) (fun r159 => ?_)
  refine T_go (S' := (332, [(1, .inl ((5 : Int32))), (0, .inr (.inr (x0)))], [.inl ((-1 : Int32)), .inl ((5 : Int32)), .inr (.inr (r159))], hd L158, 38, 12015)) 2 rfl ?_
  refine TI_iast rfl (fun _ => ?_)
  refine T_let (Sf := fun L160 => (333, [(1, .inl ((5 : Int32))), (0, .inr (.inr (x0)))], [], hd L160, 38, 12015)) (fun L160 => ?_)
  refine T_go (S' := (334, [(1, .inl ((5 : Int32))), (0, .inr (.inr (x0)))], [.inr (.inr (x0))], hd L160, 38, 12015)) 1 rfl ?_
  refine TI_getR rfl (fun _ => ?_)
  refine T_let (Sf := fun r161 => (337, [(1, .inl ((5 : Int32))), (0, .inr (.inr (x0)))], [.inr (.inr (r161))], hd L160, 38, 12015)) (fun r161 => ?_)
  refine T_go (S' := (339, [(1, .inl ((5 : Int32))), (0, .inr (.inr (x0)))], [.inl ((-1 : Int32)), .inl ((5 : Int32)), .inr (.inr (r161))], hd L160, 38, 12015)) 2 rfl ?_
  refine TI_iast rfl (fun _ => ?_)
  refine T_let (Sf := fun L162 => (340, [(1, .inl ((5 : Int32))), (0, .inr (.inr (x0)))], [], hd L162, 38, 12015)) (fun L162 => ?_)
  refine T_go (S' := (313, [(1, .inl ((6 : Int32))), (0, .inr (.inr (x0)))], [.inr (.inr (x0))], hd L162, 38, 12015)) 6 rfl ?_
  refine TI_getR rfl (fun _ => ?_)
  refine T_let (Sf := fun r163 => (316, [(1, .inl ((6 : Int32))), (0, .inr (.inr (x0)))], [.inr (.inr (r163))], hd L162, 38, 12015)) (fun r163 => ?_)
  refine T_go (S' := (318, [(1, .inl ((6 : Int32))), (0, .inr (.inr (x0)))], [.inl ((-1 : Int32)), .inl ((6 : Int32)), .inr (.inr (r163))], hd L162, 38, 12015)) 2 rfl ?_
  refine TI_iast rfl (fun _ => ?_)
  refine T_let (Sf := fun L164 => (319, [(1, .inl ((6 : Int32))), (0, .inr (.inr (x0)))], [], hd L164, 38, 12015)) (fun L164 => ?_)
  exact s_X12_init_c4 x0 L164
set_option maxRecDepth 20000 in
def f_X12_init_c2 (x0 : Nat) (L : List eOp) : Option (List eOp) :=
  eLet ((1, 11, 3, 0, 0) :: L) fun L95 =>
  eLet ((hd L).1) fun r94 =>
  if ((hd L95).2.1 x0).1 = 10 then
  eLet ((5, x0, 33, r94, 0) :: L95) fun L96 =>
  eLet ((1, 11, 12, 0, 0) :: L96) fun L98 =>
  eLet ((hd L96).1) fun r97 =>
  if ((hd L98).2.1 x0).1 = 10 then
  eLet ((5, x0, 34, r97, 0) :: L98) fun L99 =>
  eLet ((1, 11, 12, 0, 0) :: L99) fun L101 =>
  eLet ((hd L99).1) fun r100 =>
  if ((hd L101).2.1 x0).1 = 10 then
  eLet ((5, x0, 35, r100, 0) :: L101) fun L102 =>
  eLet ((1, 11, 12, 0, 0) :: L102) fun L104 =>
  eLet ((hd L102).1) fun r103 =>
  if ((hd L104).2.1 x0).1 = 10 then
  eLet ((5, x0, 36, r103, 0) :: L104) fun L105 =>
  eLet ((1, 12, 256, 0, 0) :: L105) fun L107 =>
  eLet ((hd L105).1) fun r106 =>
  if ((hd L107).2.1 x0).1 = 10 then
  eLet ((5, x0, 37, r106, 0) :: L107) fun L108 =>
  eLet ((1, 12, 8192, 0, 0) :: L108) fun L110 =>
  eLet ((hd L108).1) fun r109 =>
  if ((hd L110).2.1 x0).1 = 10 then
  eLet ((5, x0, 39, r109, 0) :: L110) fun L111 =>
  eLet ((1, 11, 1024, 0, 0) :: L111) fun L113 =>
  eLet ((hd L111).1) fun r112 =>
  if ((hd L113).2.1 x0).1 = 10 then
  eLet ((5, x0, 41, r112, 0) :: L113) fun L114 =>
  if ((hd L114).2.1 x0).1 = 10 then
  eLet ((hd L114).2.2.2.1 x0 1) fun r115 =>
  if ((hd L114).2.1 r115).1 = 11 ∧ eix (0 : Int32) ((hd L114).2.1 r115).2 = true then
  eLet ((4, r115, 0, 0, (-1 : Int32)) :: L114) fun L116 =>
  if ((hd L116).2.1 x0).1 = 10 then
  eLet ((hd L116).2.2.2.1 x0 4) fun r117 =>
  if ((hd L116).2.1 r117).1 = 11 ∧ eix (0 : Int32) ((hd L116).2.1 r117).2 = true then
  eLet ((4, r117, 0, 0, (-1 : Int32)) :: L116) fun L118 =>
  if ((hd L118).2.1 x0).1 = 10 then
  eLet ((hd L118).2.2.2.1 x0 12) fun r119 =>
  if ((hd L118).2.1 r119).1 = 11 ∧ eix (0 : Int32) ((hd L118).2.1 r119).2 = true then
  eLet ((4, r119, 0, 0, (-1 : Int32)) :: L118) fun L120 =>
  if ((hd L120).2.1 x0).1 = 10 then
  eLet ((hd L120).2.2.2.1 x0 17) fun r121 =>
  if ((hd L120).2.1 r121).1 = 11 ∧ eix (0 : Int32) ((hd L120).2.1 r121).2 = true then
  eLet ((4, r121, 0, 0, (-1 : Int32)) :: L120) fun L122 =>
  if ((hd L122).2.1 x0).1 = 10 then
  eLet ((hd L122).2.2.2.1 x0 1) fun r123 =>
  if ((hd L122).2.1 r123).1 = 11 ∧ eix (1 : Int32) ((hd L122).2.1 r123).2 = true then
  eLet ((4, r123, 1, 0, (-1 : Int32)) :: L122) fun L124 =>
  if ((hd L124).2.1 x0).1 = 10 then
  eLet ((hd L124).2.2.2.1 x0 4) fun r125 =>
  if ((hd L124).2.1 r125).1 = 11 ∧ eix (1 : Int32) ((hd L124).2.1 r125).2 = true then
  eLet ((4, r125, 1, 0, (-1 : Int32)) :: L124) fun L126 =>
  if ((hd L126).2.1 x0).1 = 10 then
  eLet ((hd L126).2.2.2.1 x0 12) fun r127 =>
  if ((hd L126).2.1 r127).1 = 11 ∧ eix (1 : Int32) ((hd L126).2.1 r127).2 = true then
  eLet ((4, r127, 1, 0, (-1 : Int32)) :: L126) fun L128 =>
  if ((hd L128).2.1 x0).1 = 10 then
  eLet ((hd L128).2.2.2.1 x0 17) fun r129 =>
  if ((hd L128).2.1 r129).1 = 11 ∧ eix (1 : Int32) ((hd L128).2.1 r129).2 = true then
  eLet ((4, r129, 1, 0, (-1 : Int32)) :: L128) fun L130 =>
  if ((hd L130).2.1 x0).1 = 10 then
  eLet ((hd L130).2.2.2.1 x0 1) fun r131 =>
  if ((hd L130).2.1 r131).1 = 11 ∧ eix (2 : Int32) ((hd L130).2.1 r131).2 = true then
  eLet ((4, r131, 2, 0, (-1 : Int32)) :: L130) fun L132 =>
  f_X12_init_c3 x0 L132
  else none
  else none
  else none
  else none
  else none
  else none
  else none
  else none
  else none
  else none
  else none
  else none
  else none
  else none
  else none
  else none
  else none
  else none
  else none
  else none
  else none
  else none
  else none
  else none
  else none
set_option maxHeartbeats 4000000 in
set_option maxRecDepth 20000 in
theorem s_X12_init_c2 (x0 : Nat) (L : List eOp) : Snd true none 0 m_X12_init (f_X12_init_c2 x0 L) cI (246, [(0, .inr (.inr (x0)))], [], hd L, 31, 2504) := by
  unfold f_X12_init_c2
  refine T_go (S' := (248, [(0, .inr (.inr (x0)))], [.inl ((3 : Int32)), .inr (.inr (x0))], hd L, 31, 2504)) 2 rfl ?_
  refine T_go (S' := (250, [(0, .inr (.inr (x0)))], [.inr (.inr (((hd L).1))), .inr (.inr (x0))], hd ((1, 11, 3, 0, 0) :: L), 32, 2507)) 1 rfl ?_
  refine T_let (Sf := fun L95 => (250, [(0, .inr (.inr (x0)))], [.inr (.inr (((hd L).1))), .inr (.inr (x0))], hd L95, 32, 2507)) (fun L95 => ?_)
  refine T_let (Sf := fun r94 => (250, [(0, .inr (.inr (x0)))], [.inr (.inr (r94)), .inr (.inr (x0))], hd L95, 32, 2507)) (fun r94 => ?_)
  refine TI_putR rfl (fun _ => ?_)
  refine T_let (Sf := fun L96 => (253, [(0, .inr (.inr (x0)))], [], hd L96, 32, 2507)) (fun L96 => ?_)
  refine T_go (S' := (256, [(0, .inr (.inr (x0)))], [.inl ((12 : Int32)), .inr (.inr (x0))], hd L96, 32, 2507)) 2 rfl ?_
  refine T_go (S' := (258, [(0, .inr (.inr (x0)))], [.inr (.inr (((hd L96).1))), .inr (.inr (x0))], hd ((1, 11, 12, 0, 0) :: L96), 33, 2519)) 1 rfl ?_
  refine T_let (Sf := fun L98 => (258, [(0, .inr (.inr (x0)))], [.inr (.inr (((hd L96).1))), .inr (.inr (x0))], hd L98, 33, 2519)) (fun L98 => ?_)
  refine T_let (Sf := fun r97 => (258, [(0, .inr (.inr (x0)))], [.inr (.inr (r97)), .inr (.inr (x0))], hd L98, 33, 2519)) (fun r97 => ?_)
  refine TI_putR rfl (fun _ => ?_)
  refine T_let (Sf := fun L99 => (261, [(0, .inr (.inr (x0)))], [], hd L99, 33, 2519)) (fun L99 => ?_)
  refine T_go (S' := (264, [(0, .inr (.inr (x0)))], [.inl ((12 : Int32)), .inr (.inr (x0))], hd L99, 33, 2519)) 2 rfl ?_
  refine T_go (S' := (266, [(0, .inr (.inr (x0)))], [.inr (.inr (((hd L99).1))), .inr (.inr (x0))], hd ((1, 11, 12, 0, 0) :: L99), 34, 2531)) 1 rfl ?_
  refine T_let (Sf := fun L101 => (266, [(0, .inr (.inr (x0)))], [.inr (.inr (((hd L99).1))), .inr (.inr (x0))], hd L101, 34, 2531)) (fun L101 => ?_)
  refine T_let (Sf := fun r100 => (266, [(0, .inr (.inr (x0)))], [.inr (.inr (r100)), .inr (.inr (x0))], hd L101, 34, 2531)) (fun r100 => ?_)
  refine TI_putR rfl (fun _ => ?_)
  refine T_let (Sf := fun L102 => (269, [(0, .inr (.inr (x0)))], [], hd L102, 34, 2531)) (fun L102 => ?_)
  refine T_go (S' := (272, [(0, .inr (.inr (x0)))], [.inl ((12 : Int32)), .inr (.inr (x0))], hd L102, 34, 2531)) 2 rfl ?_
  refine T_go (S' := (274, [(0, .inr (.inr (x0)))], [.inr (.inr (((hd L102).1))), .inr (.inr (x0))], hd ((1, 11, 12, 0, 0) :: L102), 35, 2543)) 1 rfl ?_
  refine T_let (Sf := fun L104 => (274, [(0, .inr (.inr (x0)))], [.inr (.inr (((hd L102).1))), .inr (.inr (x0))], hd L104, 35, 2543)) (fun L104 => ?_)
  refine T_let (Sf := fun r103 => (274, [(0, .inr (.inr (x0)))], [.inr (.inr (r103)), .inr (.inr (x0))], hd L104, 35, 2543)) (fun r103 => ?_)
  refine TI_putR rfl (fun _ => ?_)
  refine T_let (Sf := fun L105 => (277, [(0, .inr (.inr (x0)))], [], hd L105, 35, 2543)) (fun L105 => ?_)
  refine T_go (S' := (281, [(0, .inr (.inr (x0)))], [.inl ((256 : Int32)), .inr (.inr (x0))], hd L105, 35, 2543)) 2 rfl ?_
  refine T_go (S' := (283, [(0, .inr (.inr (x0)))], [.inr (.inr (((hd L105).1))), .inr (.inr (x0))], hd ((1, 12, 256, 0, 0) :: L105), 36, 2799)) 1 rfl ?_
  refine T_let (Sf := fun L107 => (283, [(0, .inr (.inr (x0)))], [.inr (.inr (((hd L105).1))), .inr (.inr (x0))], hd L107, 36, 2799)) (fun L107 => ?_)
  refine T_let (Sf := fun r106 => (283, [(0, .inr (.inr (x0)))], [.inr (.inr (r106)), .inr (.inr (x0))], hd L107, 36, 2799)) (fun r106 => ?_)
  refine TI_putR rfl (fun _ => ?_)
  refine T_let (Sf := fun L108 => (286, [(0, .inr (.inr (x0)))], [], hd L108, 36, 2799)) (fun L108 => ?_)
  refine T_go (S' := (290, [(0, .inr (.inr (x0)))], [.inl ((8192 : Int32)), .inr (.inr (x0))], hd L108, 36, 2799)) 2 rfl ?_
  refine T_go (S' := (292, [(0, .inr (.inr (x0)))], [.inr (.inr (((hd L108).1))), .inr (.inr (x0))], hd ((1, 12, 8192, 0, 0) :: L108), 37, 10991)) 1 rfl ?_
  refine T_let (Sf := fun L110 => (292, [(0, .inr (.inr (x0)))], [.inr (.inr (((hd L108).1))), .inr (.inr (x0))], hd L110, 37, 10991)) (fun L110 => ?_)
  refine T_let (Sf := fun r109 => (292, [(0, .inr (.inr (x0)))], [.inr (.inr (r109)), .inr (.inr (x0))], hd L110, 37, 10991)) (fun r109 => ?_)
  refine TI_putR rfl (fun _ => ?_)
  refine T_let (Sf := fun L111 => (295, [(0, .inr (.inr (x0)))], [], hd L111, 37, 10991)) (fun L111 => ?_)
  refine T_go (S' := (299, [(0, .inr (.inr (x0)))], [.inl ((1024 : Int32)), .inr (.inr (x0))], hd L111, 37, 10991)) 2 rfl ?_
  refine T_go (S' := (301, [(0, .inr (.inr (x0)))], [.inr (.inr (((hd L111).1))), .inr (.inr (x0))], hd ((1, 11, 1024, 0, 0) :: L111), 38, 12015)) 1 rfl ?_
  refine T_let (Sf := fun L113 => (301, [(0, .inr (.inr (x0)))], [.inr (.inr (((hd L111).1))), .inr (.inr (x0))], hd L113, 38, 12015)) (fun L113 => ?_)
  refine T_let (Sf := fun r112 => (301, [(0, .inr (.inr (x0)))], [.inr (.inr (r112)), .inr (.inr (x0))], hd L113, 38, 12015)) (fun r112 => ?_)
  refine TI_putR rfl (fun _ => ?_)
  refine T_let (Sf := fun L114 => (304, [(0, .inr (.inr (x0)))], [], hd L114, 38, 12015)) (fun L114 => ?_)
  refine T_go (S' := (313, [(1, .inl ((0 : Int32))), (0, .inr (.inr (x0)))], [.inr (.inr (x0))], hd L114, 38, 12015)) 6 rfl ?_
  refine TI_getR rfl (fun _ => ?_)
  refine T_let (Sf := fun r115 => (316, [(1, .inl ((0 : Int32))), (0, .inr (.inr (x0)))], [.inr (.inr (r115))], hd L114, 38, 12015)) (fun r115 => ?_)
  refine T_go (S' := (318, [(1, .inl ((0 : Int32))), (0, .inr (.inr (x0)))], [.inl ((-1 : Int32)), .inl ((0 : Int32)), .inr (.inr (r115))], hd L114, 38, 12015)) 2 rfl ?_
  refine TI_iast rfl (fun _ => ?_)
  refine T_let (Sf := fun L116 => (319, [(1, .inl ((0 : Int32))), (0, .inr (.inr (x0)))], [], hd L116, 38, 12015)) (fun L116 => ?_)
  refine T_go (S' := (320, [(1, .inl ((0 : Int32))), (0, .inr (.inr (x0)))], [.inr (.inr (x0))], hd L116, 38, 12015)) 1 rfl ?_
  refine TI_getR rfl (fun _ => ?_)
  refine T_let (Sf := fun r117 => (323, [(1, .inl ((0 : Int32))), (0, .inr (.inr (x0)))], [.inr (.inr (r117))], hd L116, 38, 12015)) (fun r117 => ?_)
  refine T_go (S' := (325, [(1, .inl ((0 : Int32))), (0, .inr (.inr (x0)))], [.inl ((-1 : Int32)), .inl ((0 : Int32)), .inr (.inr (r117))], hd L116, 38, 12015)) 2 rfl ?_
  refine TI_iast rfl (fun _ => ?_)
  refine T_let (Sf := fun L118 => (326, [(1, .inl ((0 : Int32))), (0, .inr (.inr (x0)))], [], hd L118, 38, 12015)) (fun L118 => ?_)
  refine T_go (S' := (327, [(1, .inl ((0 : Int32))), (0, .inr (.inr (x0)))], [.inr (.inr (x0))], hd L118, 38, 12015)) 1 rfl ?_
  refine TI_getR rfl (fun _ => ?_)
  refine T_let (Sf := fun r119 => (330, [(1, .inl ((0 : Int32))), (0, .inr (.inr (x0)))], [.inr (.inr (r119))], hd L118, 38, 12015)) (fun r119 => ?_)
  refine T_go (S' := (332, [(1, .inl ((0 : Int32))), (0, .inr (.inr (x0)))], [.inl ((-1 : Int32)), .inl ((0 : Int32)), .inr (.inr (r119))], hd L118, 38, 12015)) 2 rfl ?_
  refine TI_iast rfl (fun _ => ?_)
  refine T_let (Sf := fun L120 => (333, [(1, .inl ((0 : Int32))), (0, .inr (.inr (x0)))], [], hd L120, 38, 12015)) (fun L120 => ?_)
  refine T_go (S' := (334, [(1, .inl ((0 : Int32))), (0, .inr (.inr (x0)))], [.inr (.inr (x0))], hd L120, 38, 12015)) 1 rfl ?_
  refine TI_getR rfl (fun _ => ?_)
  refine T_let (Sf := fun r121 => (337, [(1, .inl ((0 : Int32))), (0, .inr (.inr (x0)))], [.inr (.inr (r121))], hd L120, 38, 12015)) (fun r121 => ?_)
  refine T_go (S' := (339, [(1, .inl ((0 : Int32))), (0, .inr (.inr (x0)))], [.inl ((-1 : Int32)), .inl ((0 : Int32)), .inr (.inr (r121))], hd L120, 38, 12015)) 2 rfl ?_
  refine TI_iast rfl (fun _ => ?_)
  refine T_let (Sf := fun L122 => (340, [(1, .inl ((0 : Int32))), (0, .inr (.inr (x0)))], [], hd L122, 38, 12015)) (fun L122 => ?_)
  refine T_go (S' := (313, [(1, .inl ((1 : Int32))), (0, .inr (.inr (x0)))], [.inr (.inr (x0))], hd L122, 38, 12015)) 6 rfl ?_
  refine TI_getR rfl (fun _ => ?_)
  refine T_let (Sf := fun r123 => (316, [(1, .inl ((1 : Int32))), (0, .inr (.inr (x0)))], [.inr (.inr (r123))], hd L122, 38, 12015)) (fun r123 => ?_)
  refine T_go (S' := (318, [(1, .inl ((1 : Int32))), (0, .inr (.inr (x0)))], [.inl ((-1 : Int32)), .inl ((1 : Int32)), .inr (.inr (r123))], hd L122, 38, 12015)) 2 rfl ?_
  refine TI_iast rfl (fun _ => ?_)
  refine T_let (Sf := fun L124 => (319, [(1, .inl ((1 : Int32))), (0, .inr (.inr (x0)))], [], hd L124, 38, 12015)) (fun L124 => ?_)
  refine T_go (S' := (320, [(1, .inl ((1 : Int32))), (0, .inr (.inr (x0)))], [.inr (.inr (x0))], hd L124, 38, 12015)) 1 rfl ?_
  refine TI_getR rfl (fun _ => ?_)
  refine T_let (Sf := fun r125 => (323, [(1, .inl ((1 : Int32))), (0, .inr (.inr (x0)))], [.inr (.inr (r125))], hd L124, 38, 12015)) (fun r125 => ?_)
  refine T_go (S' := (325, [(1, .inl ((1 : Int32))), (0, .inr (.inr (x0)))], [.inl ((-1 : Int32)), .inl ((1 : Int32)), .inr (.inr (r125))], hd L124, 38, 12015)) 2 rfl ?_
  refine TI_iast rfl (fun _ => ?_)
  refine T_let (Sf := fun L126 => (326, [(1, .inl ((1 : Int32))), (0, .inr (.inr (x0)))], [], hd L126, 38, 12015)) (fun L126 => ?_)
  refine T_go (S' := (327, [(1, .inl ((1 : Int32))), (0, .inr (.inr (x0)))], [.inr (.inr (x0))], hd L126, 38, 12015)) 1 rfl ?_
  refine TI_getR rfl (fun _ => ?_)
  refine T_let (Sf := fun r127 => (330, [(1, .inl ((1 : Int32))), (0, .inr (.inr (x0)))], [.inr (.inr (r127))], hd L126, 38, 12015)) (fun r127 => ?_)
  refine T_go (S' := (332, [(1, .inl ((1 : Int32))), (0, .inr (.inr (x0)))], [.inl ((-1 : Int32)), .inl ((1 : Int32)), .inr (.inr (r127))], hd L126, 38, 12015)) 2 rfl ?_
  refine TI_iast rfl (fun _ => ?_)
  refine T_let (Sf := fun L128 => (333, [(1, .inl ((1 : Int32))), (0, .inr (.inr (x0)))], [], hd L128, 38, 12015)) (fun L128 => ?_)
  refine T_go (S' := (334, [(1, .inl ((1 : Int32))), (0, .inr (.inr (x0)))], [.inr (.inr (x0))], hd L128, 38, 12015)) 1 rfl ?_
  refine TI_getR rfl (fun _ => ?_)
  refine T_let (Sf := fun r129 => (337, [(1, .inl ((1 : Int32))), (0, .inr (.inr (x0)))], [.inr (.inr (r129))], hd L128, 38, 12015)) (fun r129 => ?_)
  refine T_go (S' := (339, [(1, .inl ((1 : Int32))), (0, .inr (.inr (x0)))], [.inl ((-1 : Int32)), .inl ((1 : Int32)), .inr (.inr (r129))], hd L128, 38, 12015)) 2 rfl ?_
  refine TI_iast rfl (fun _ => ?_)
  refine T_let (Sf := fun L130 => (340, [(1, .inl ((1 : Int32))), (0, .inr (.inr (x0)))], [], hd L130, 38, 12015)) (fun L130 => ?_)
  refine T_go (S' := (313, [(1, .inl ((2 : Int32))), (0, .inr (.inr (x0)))], [.inr (.inr (x0))], hd L130, 38, 12015)) 6 rfl ?_
  refine TI_getR rfl (fun _ => ?_)
  refine T_let (Sf := fun r131 => (316, [(1, .inl ((2 : Int32))), (0, .inr (.inr (x0)))], [.inr (.inr (r131))], hd L130, 38, 12015)) (fun r131 => ?_)
  refine T_go (S' := (318, [(1, .inl ((2 : Int32))), (0, .inr (.inr (x0)))], [.inl ((-1 : Int32)), .inl ((2 : Int32)), .inr (.inr (r131))], hd L130, 38, 12015)) 2 rfl ?_
  refine TI_iast rfl (fun _ => ?_)
  refine T_let (Sf := fun L132 => (319, [(1, .inl ((2 : Int32))), (0, .inr (.inr (x0)))], [], hd L132, 38, 12015)) (fun L132 => ?_)
  exact s_X12_init_c3 x0 L132
set_option maxRecDepth 20000 in
def f_X12_init_c1 (x0 : Nat) (L : List eOp) : Option (List eOp) :=
  eLet ((1, 11, 16, 0, 0) :: L) fun L47 =>
  eLet ((hd L).1) fun r46 =>
  if ((hd L47).2.1 x0).1 = 10 then
  eLet ((5, x0, 15, r46, 0) :: L47) fun L48 =>
  eLet ((1, 13, 16, 0, 0) :: L48) fun L50 =>
  eLet ((hd L48).1) fun r49 =>
  if ((hd L50).2.1 x0).1 = 10 then
  eLet ((5, x0, 16, r49, 0) :: L50) fun L51 =>
  eLet ((1, 11, 16, 0, 0) :: L51) fun L53 =>
  eLet ((hd L51).1) fun r52 =>
  if ((hd L53).2.1 x0).1 = 10 then
  eLet ((5, x0, 17, r52, 0) :: L53) fun L54 =>
  eLet ((1, 11, 64, 0, 0) :: L54) fun L56 =>
  eLet ((hd L54).1) fun r55 =>
  if ((hd L56).2.1 x0).1 = 10 then
  eLet ((5, x0, 19, r55, 0) :: L56) fun L57 =>
  eLet ((1, 11, 4, 0, 0) :: L57) fun L59 =>
  eLet ((hd L57).1) fun r58 =>
  if ((hd L59).2.1 x0).1 = 10 then
  eLet ((5, x0, 20, r58, 0) :: L59) fun L60 =>
  eLet ((1, 11, 16, 0, 0) :: L60) fun L62 =>
  eLet ((hd L60).1) fun r61 =>
  if ((hd L62).2.1 x0).1 = 10 then
  eLet ((5, x0, 21, r61, 0) :: L62) fun L63 =>
  eLet ((1, 11, 16, 0, 0) :: L63) fun L65 =>
  eLet ((hd L63).1) fun r64 =>
  if ((hd L65).2.1 x0).1 = 10 then
  eLet ((5, x0, 22, r64, 0) :: L65) fun L66 =>
  eLet ((1, 13, 4, 0, 0) :: L66) fun L68 =>
  eLet ((hd L66).1) fun r67 =>
  if ((hd L68).2.1 x0).1 = 10 then
  eLet ((5, x0, 23, r67, 0) :: L68) fun L69 =>
  eLet ((1, 13, 4, 0, 0) :: L69) fun L71 =>
  eLet ((hd L69).1) fun r70 =>
  if ((hd L71).2.1 x0).1 = 10 then
  eLet ((5, x0, 24, r70, 0) :: L71) fun L72 =>
  eLet ((1, 11, 4, 0, 0) :: L72) fun L74 =>
  eLet ((hd L72).1) fun r73 =>
  if ((hd L74).2.1 x0).1 = 10 then
  eLet ((5, x0, 25, r73, 0) :: L74) fun L75 =>
  eLet ((1, 11, 4, 0, 0) :: L75) fun L77 =>
  eLet ((hd L75).1) fun r76 =>
  if ((hd L77).2.1 x0).1 = 10 then
  eLet ((5, x0, 26, r76, 0) :: L77) fun L78 =>
  eLet ((1, 11, 4, 0, 0) :: L78) fun L80 =>
  eLet ((hd L78).1) fun r79 =>
  if ((hd L80).2.1 x0).1 = 10 then
  eLet ((5, x0, 27, r79, 0) :: L80) fun L81 =>
  eLet ((1, 11, 64, 0, 0) :: L81) fun L83 =>
  eLet ((hd L81).1) fun r82 =>
  if ((hd L83).2.1 x0).1 = 10 then
  eLet ((5, x0, 28, r82, 0) :: L83) fun L84 =>
  eLet ((1, 11, 4, 0, 0) :: L84) fun L86 =>
  eLet ((hd L84).1) fun r85 =>
  if ((hd L86).2.1 x0).1 = 10 then
  eLet ((5, x0, 29, r85, 0) :: L86) fun L87 =>
  eLet ((1, 11, 4, 0, 0) :: L87) fun L89 =>
  eLet ((hd L87).1) fun r88 =>
  if ((hd L89).2.1 x0).1 = 10 then
  eLet ((5, x0, 30, r88, 0) :: L89) fun L90 =>
  eLet ((1, 11, 10, 0, 0) :: L90) fun L92 =>
  eLet ((hd L90).1) fun r91 =>
  if ((hd L92).2.1 x0).1 = 10 then
  eLet ((5, x0, 31, r91, 0) :: L92) fun L93 =>
  f_X12_init_c2 x0 L93
  else none
  else none
  else none
  else none
  else none
  else none
  else none
  else none
  else none
  else none
  else none
  else none
  else none
  else none
  else none
  else none
set_option maxHeartbeats 4000000 in
set_option maxRecDepth 20000 in
theorem s_X12_init_c1 (x0 : Nat) (L : List eOp) : Snd true none 0 m_X12_init (f_X12_init_c1 x0 L) cI (126, [(0, .inr (.inr (x0)))], [], hd L, 15, 2254) := by
  unfold f_X12_init_c1
  refine T_go (S' := (129, [(0, .inr (.inr (x0)))], [.inl ((16 : Int32)), .inr (.inr (x0))], hd L, 15, 2254)) 2 rfl ?_
  refine T_go (S' := (131, [(0, .inr (.inr (x0)))], [.inr (.inr (((hd L).1))), .inr (.inr (x0))], hd ((1, 11, 16, 0, 0) :: L), 16, 2270)) 1 rfl ?_
  refine T_let (Sf := fun L47 => (131, [(0, .inr (.inr (x0)))], [.inr (.inr (((hd L).1))), .inr (.inr (x0))], hd L47, 16, 2270)) (fun L47 => ?_)
  refine T_let (Sf := fun r46 => (131, [(0, .inr (.inr (x0)))], [.inr (.inr (r46)), .inr (.inr (x0))], hd L47, 16, 2270)) (fun r46 => ?_)
  refine TI_putR rfl (fun _ => ?_)
  refine T_let (Sf := fun L48 => (134, [(0, .inr (.inr (x0)))], [], hd L48, 16, 2270)) (fun L48 => ?_)
  refine T_go (S' := (137, [(0, .inr (.inr (x0)))], [.inl ((16 : Int32)), .inr (.inr (x0))], hd L48, 16, 2270)) 2 rfl ?_
  refine T_go (S' := (139, [(0, .inr (.inr (x0)))], [.inr (.inr (((hd L48).1))), .inr (.inr (x0))], hd ((1, 13, 16, 0, 0) :: L48), 17, 2286)) 1 rfl ?_
  refine T_let (Sf := fun L50 => (139, [(0, .inr (.inr (x0)))], [.inr (.inr (((hd L48).1))), .inr (.inr (x0))], hd L50, 17, 2286)) (fun L50 => ?_)
  refine T_let (Sf := fun r49 => (139, [(0, .inr (.inr (x0)))], [.inr (.inr (r49)), .inr (.inr (x0))], hd L50, 17, 2286)) (fun r49 => ?_)
  refine TI_putR rfl (fun _ => ?_)
  refine T_let (Sf := fun L51 => (142, [(0, .inr (.inr (x0)))], [], hd L51, 17, 2286)) (fun L51 => ?_)
  refine T_go (S' := (145, [(0, .inr (.inr (x0)))], [.inl ((16 : Int32)), .inr (.inr (x0))], hd L51, 17, 2286)) 2 rfl ?_
  refine T_go (S' := (147, [(0, .inr (.inr (x0)))], [.inr (.inr (((hd L51).1))), .inr (.inr (x0))], hd ((1, 11, 16, 0, 0) :: L51), 18, 2302)) 1 rfl ?_
  refine T_let (Sf := fun L53 => (147, [(0, .inr (.inr (x0)))], [.inr (.inr (((hd L51).1))), .inr (.inr (x0))], hd L53, 18, 2302)) (fun L53 => ?_)
  refine T_let (Sf := fun r52 => (147, [(0, .inr (.inr (x0)))], [.inr (.inr (r52)), .inr (.inr (x0))], hd L53, 18, 2302)) (fun r52 => ?_)
  refine TI_putR rfl (fun _ => ?_)
  refine T_let (Sf := fun L54 => (150, [(0, .inr (.inr (x0)))], [], hd L54, 18, 2302)) (fun L54 => ?_)
  refine T_go (S' := (153, [(0, .inr (.inr (x0)))], [.inl ((64 : Int32)), .inr (.inr (x0))], hd L54, 18, 2302)) 2 rfl ?_
  refine T_go (S' := (155, [(0, .inr (.inr (x0)))], [.inr (.inr (((hd L54).1))), .inr (.inr (x0))], hd ((1, 11, 64, 0, 0) :: L54), 19, 2366)) 1 rfl ?_
  refine T_let (Sf := fun L56 => (155, [(0, .inr (.inr (x0)))], [.inr (.inr (((hd L54).1))), .inr (.inr (x0))], hd L56, 19, 2366)) (fun L56 => ?_)
  refine T_let (Sf := fun r55 => (155, [(0, .inr (.inr (x0)))], [.inr (.inr (r55)), .inr (.inr (x0))], hd L56, 19, 2366)) (fun r55 => ?_)
  refine TI_putR rfl (fun _ => ?_)
  refine T_let (Sf := fun L57 => (158, [(0, .inr (.inr (x0)))], [], hd L57, 19, 2366)) (fun L57 => ?_)
  refine T_go (S' := (160, [(0, .inr (.inr (x0)))], [.inl ((4 : Int32)), .inr (.inr (x0))], hd L57, 19, 2366)) 2 rfl ?_
  refine T_go (S' := (162, [(0, .inr (.inr (x0)))], [.inr (.inr (((hd L57).1))), .inr (.inr (x0))], hd ((1, 11, 4, 0, 0) :: L57), 20, 2370)) 1 rfl ?_
  refine T_let (Sf := fun L59 => (162, [(0, .inr (.inr (x0)))], [.inr (.inr (((hd L57).1))), .inr (.inr (x0))], hd L59, 20, 2370)) (fun L59 => ?_)
  refine T_let (Sf := fun r58 => (162, [(0, .inr (.inr (x0)))], [.inr (.inr (r58)), .inr (.inr (x0))], hd L59, 20, 2370)) (fun r58 => ?_)
  refine TI_putR rfl (fun _ => ?_)
  refine T_let (Sf := fun L60 => (165, [(0, .inr (.inr (x0)))], [], hd L60, 20, 2370)) (fun L60 => ?_)
  refine T_go (S' := (168, [(0, .inr (.inr (x0)))], [.inl ((16 : Int32)), .inr (.inr (x0))], hd L60, 20, 2370)) 2 rfl ?_
  refine T_go (S' := (170, [(0, .inr (.inr (x0)))], [.inr (.inr (((hd L60).1))), .inr (.inr (x0))], hd ((1, 11, 16, 0, 0) :: L60), 21, 2386)) 1 rfl ?_
  refine T_let (Sf := fun L62 => (170, [(0, .inr (.inr (x0)))], [.inr (.inr (((hd L60).1))), .inr (.inr (x0))], hd L62, 21, 2386)) (fun L62 => ?_)
  refine T_let (Sf := fun r61 => (170, [(0, .inr (.inr (x0)))], [.inr (.inr (r61)), .inr (.inr (x0))], hd L62, 21, 2386)) (fun r61 => ?_)
  refine TI_putR rfl (fun _ => ?_)
  refine T_let (Sf := fun L63 => (173, [(0, .inr (.inr (x0)))], [], hd L63, 21, 2386)) (fun L63 => ?_)
  refine T_go (S' := (176, [(0, .inr (.inr (x0)))], [.inl ((16 : Int32)), .inr (.inr (x0))], hd L63, 21, 2386)) 2 rfl ?_
  refine T_go (S' := (178, [(0, .inr (.inr (x0)))], [.inr (.inr (((hd L63).1))), .inr (.inr (x0))], hd ((1, 11, 16, 0, 0) :: L63), 22, 2402)) 1 rfl ?_
  refine T_let (Sf := fun L65 => (178, [(0, .inr (.inr (x0)))], [.inr (.inr (((hd L63).1))), .inr (.inr (x0))], hd L65, 22, 2402)) (fun L65 => ?_)
  refine T_let (Sf := fun r64 => (178, [(0, .inr (.inr (x0)))], [.inr (.inr (r64)), .inr (.inr (x0))], hd L65, 22, 2402)) (fun r64 => ?_)
  refine TI_putR rfl (fun _ => ?_)
  refine T_let (Sf := fun L66 => (181, [(0, .inr (.inr (x0)))], [], hd L66, 22, 2402)) (fun L66 => ?_)
  refine T_go (S' := (183, [(0, .inr (.inr (x0)))], [.inl ((4 : Int32)), .inr (.inr (x0))], hd L66, 22, 2402)) 2 rfl ?_
  refine T_go (S' := (185, [(0, .inr (.inr (x0)))], [.inr (.inr (((hd L66).1))), .inr (.inr (x0))], hd ((1, 13, 4, 0, 0) :: L66), 23, 2406)) 1 rfl ?_
  refine T_let (Sf := fun L68 => (185, [(0, .inr (.inr (x0)))], [.inr (.inr (((hd L66).1))), .inr (.inr (x0))], hd L68, 23, 2406)) (fun L68 => ?_)
  refine T_let (Sf := fun r67 => (185, [(0, .inr (.inr (x0)))], [.inr (.inr (r67)), .inr (.inr (x0))], hd L68, 23, 2406)) (fun r67 => ?_)
  refine TI_putR rfl (fun _ => ?_)
  refine T_let (Sf := fun L69 => (188, [(0, .inr (.inr (x0)))], [], hd L69, 23, 2406)) (fun L69 => ?_)
  refine T_go (S' := (190, [(0, .inr (.inr (x0)))], [.inl ((4 : Int32)), .inr (.inr (x0))], hd L69, 23, 2406)) 2 rfl ?_
  refine T_go (S' := (192, [(0, .inr (.inr (x0)))], [.inr (.inr (((hd L69).1))), .inr (.inr (x0))], hd ((1, 13, 4, 0, 0) :: L69), 24, 2410)) 1 rfl ?_
  refine T_let (Sf := fun L71 => (192, [(0, .inr (.inr (x0)))], [.inr (.inr (((hd L69).1))), .inr (.inr (x0))], hd L71, 24, 2410)) (fun L71 => ?_)
  refine T_let (Sf := fun r70 => (192, [(0, .inr (.inr (x0)))], [.inr (.inr (r70)), .inr (.inr (x0))], hd L71, 24, 2410)) (fun r70 => ?_)
  refine TI_putR rfl (fun _ => ?_)
  refine T_let (Sf := fun L72 => (195, [(0, .inr (.inr (x0)))], [], hd L72, 24, 2410)) (fun L72 => ?_)
  refine T_go (S' := (197, [(0, .inr (.inr (x0)))], [.inl ((4 : Int32)), .inr (.inr (x0))], hd L72, 24, 2410)) 2 rfl ?_
  refine T_go (S' := (199, [(0, .inr (.inr (x0)))], [.inr (.inr (((hd L72).1))), .inr (.inr (x0))], hd ((1, 11, 4, 0, 0) :: L72), 25, 2414)) 1 rfl ?_
  refine T_let (Sf := fun L74 => (199, [(0, .inr (.inr (x0)))], [.inr (.inr (((hd L72).1))), .inr (.inr (x0))], hd L74, 25, 2414)) (fun L74 => ?_)
  refine T_let (Sf := fun r73 => (199, [(0, .inr (.inr (x0)))], [.inr (.inr (r73)), .inr (.inr (x0))], hd L74, 25, 2414)) (fun r73 => ?_)
  refine TI_putR rfl (fun _ => ?_)
  refine T_let (Sf := fun L75 => (202, [(0, .inr (.inr (x0)))], [], hd L75, 25, 2414)) (fun L75 => ?_)
  refine T_go (S' := (204, [(0, .inr (.inr (x0)))], [.inl ((4 : Int32)), .inr (.inr (x0))], hd L75, 25, 2414)) 2 rfl ?_
  refine T_go (S' := (206, [(0, .inr (.inr (x0)))], [.inr (.inr (((hd L75).1))), .inr (.inr (x0))], hd ((1, 11, 4, 0, 0) :: L75), 26, 2418)) 1 rfl ?_
  refine T_let (Sf := fun L77 => (206, [(0, .inr (.inr (x0)))], [.inr (.inr (((hd L75).1))), .inr (.inr (x0))], hd L77, 26, 2418)) (fun L77 => ?_)
  refine T_let (Sf := fun r76 => (206, [(0, .inr (.inr (x0)))], [.inr (.inr (r76)), .inr (.inr (x0))], hd L77, 26, 2418)) (fun r76 => ?_)
  refine TI_putR rfl (fun _ => ?_)
  refine T_let (Sf := fun L78 => (209, [(0, .inr (.inr (x0)))], [], hd L78, 26, 2418)) (fun L78 => ?_)
  refine T_go (S' := (211, [(0, .inr (.inr (x0)))], [.inl ((4 : Int32)), .inr (.inr (x0))], hd L78, 26, 2418)) 2 rfl ?_
  refine T_go (S' := (213, [(0, .inr (.inr (x0)))], [.inr (.inr (((hd L78).1))), .inr (.inr (x0))], hd ((1, 11, 4, 0, 0) :: L78), 27, 2422)) 1 rfl ?_
  refine T_let (Sf := fun L80 => (213, [(0, .inr (.inr (x0)))], [.inr (.inr (((hd L78).1))), .inr (.inr (x0))], hd L80, 27, 2422)) (fun L80 => ?_)
  refine T_let (Sf := fun r79 => (213, [(0, .inr (.inr (x0)))], [.inr (.inr (r79)), .inr (.inr (x0))], hd L80, 27, 2422)) (fun r79 => ?_)
  refine TI_putR rfl (fun _ => ?_)
  refine T_let (Sf := fun L81 => (216, [(0, .inr (.inr (x0)))], [], hd L81, 27, 2422)) (fun L81 => ?_)
  refine T_go (S' := (219, [(0, .inr (.inr (x0)))], [.inl ((64 : Int32)), .inr (.inr (x0))], hd L81, 27, 2422)) 2 rfl ?_
  refine T_go (S' := (221, [(0, .inr (.inr (x0)))], [.inr (.inr (((hd L81).1))), .inr (.inr (x0))], hd ((1, 11, 64, 0, 0) :: L81), 28, 2486)) 1 rfl ?_
  refine T_let (Sf := fun L83 => (221, [(0, .inr (.inr (x0)))], [.inr (.inr (((hd L81).1))), .inr (.inr (x0))], hd L83, 28, 2486)) (fun L83 => ?_)
  refine T_let (Sf := fun r82 => (221, [(0, .inr (.inr (x0)))], [.inr (.inr (r82)), .inr (.inr (x0))], hd L83, 28, 2486)) (fun r82 => ?_)
  refine TI_putR rfl (fun _ => ?_)
  refine T_let (Sf := fun L84 => (224, [(0, .inr (.inr (x0)))], [], hd L84, 28, 2486)) (fun L84 => ?_)
  refine T_go (S' := (226, [(0, .inr (.inr (x0)))], [.inl ((4 : Int32)), .inr (.inr (x0))], hd L84, 28, 2486)) 2 rfl ?_
  refine T_go (S' := (228, [(0, .inr (.inr (x0)))], [.inr (.inr (((hd L84).1))), .inr (.inr (x0))], hd ((1, 11, 4, 0, 0) :: L84), 29, 2490)) 1 rfl ?_
  refine T_let (Sf := fun L86 => (228, [(0, .inr (.inr (x0)))], [.inr (.inr (((hd L84).1))), .inr (.inr (x0))], hd L86, 29, 2490)) (fun L86 => ?_)
  refine T_let (Sf := fun r85 => (228, [(0, .inr (.inr (x0)))], [.inr (.inr (r85)), .inr (.inr (x0))], hd L86, 29, 2490)) (fun r85 => ?_)
  refine TI_putR rfl (fun _ => ?_)
  refine T_let (Sf := fun L87 => (231, [(0, .inr (.inr (x0)))], [], hd L87, 29, 2490)) (fun L87 => ?_)
  refine T_go (S' := (233, [(0, .inr (.inr (x0)))], [.inl ((4 : Int32)), .inr (.inr (x0))], hd L87, 29, 2490)) 2 rfl ?_
  refine T_go (S' := (235, [(0, .inr (.inr (x0)))], [.inr (.inr (((hd L87).1))), .inr (.inr (x0))], hd ((1, 11, 4, 0, 0) :: L87), 30, 2494)) 1 rfl ?_
  refine T_let (Sf := fun L89 => (235, [(0, .inr (.inr (x0)))], [.inr (.inr (((hd L87).1))), .inr (.inr (x0))], hd L89, 30, 2494)) (fun L89 => ?_)
  refine T_let (Sf := fun r88 => (235, [(0, .inr (.inr (x0)))], [.inr (.inr (r88)), .inr (.inr (x0))], hd L89, 30, 2494)) (fun r88 => ?_)
  refine TI_putR rfl (fun _ => ?_)
  refine T_let (Sf := fun L90 => (238, [(0, .inr (.inr (x0)))], [], hd L90, 30, 2494)) (fun L90 => ?_)
  refine T_go (S' := (241, [(0, .inr (.inr (x0)))], [.inl ((10 : Int32)), .inr (.inr (x0))], hd L90, 30, 2494)) 2 rfl ?_
  refine T_go (S' := (243, [(0, .inr (.inr (x0)))], [.inr (.inr (((hd L90).1))), .inr (.inr (x0))], hd ((1, 11, 10, 0, 0) :: L90), 31, 2504)) 1 rfl ?_
  refine T_let (Sf := fun L92 => (243, [(0, .inr (.inr (x0)))], [.inr (.inr (((hd L90).1))), .inr (.inr (x0))], hd L92, 31, 2504)) (fun L92 => ?_)
  refine T_let (Sf := fun r91 => (243, [(0, .inr (.inr (x0)))], [.inr (.inr (r91)), .inr (.inr (x0))], hd L92, 31, 2504)) (fun r91 => ?_)
  refine TI_putR rfl (fun _ => ?_)
  refine T_let (Sf := fun L93 => (246, [(0, .inr (.inr (x0)))], [], hd L93, 31, 2504)) (fun L93 => ?_)
  exact s_X12_init_c2 x0 L93
set_option maxRecDepth 20000 in
def f_X12_init (x0 : Nat) (L : List eOp) : Option (List eOp) :=
  if 2 ≤ x0 ∧ ecats [] ≤ 8 then
  eLet ((1, 11, 16, 0, 0) :: L) fun L2 =>
  eLet ((hd L).1) fun r1 =>
  if ((hd L2).2.1 x0).1 = 10 then
  eLet ((5, x0, 0, r1, 0) :: L2) fun L3 =>
  eLet ((1, 11, 16, 0, 0) :: L3) fun L5 =>
  eLet ((hd L3).1) fun r4 =>
  if ((hd L5).2.1 x0).1 = 10 then
  eLet ((5, x0, 1, r4, 0) :: L5) fun L6 =>
  eLet ((1, 11, 16, 0, 0) :: L6) fun L8 =>
  eLet ((hd L6).1) fun r7 =>
  if ((hd L8).2.1 x0).1 = 10 then
  eLet ((5, x0, 2, r7, 0) :: L8) fun L9 =>
  eLet ((1, 13, 16, 0, 0) :: L9) fun L11 =>
  eLet ((hd L9).1) fun r10 =>
  if ((hd L11).2.1 x0).1 = 10 then
  eLet ((5, x0, 3, r10, 0) :: L11) fun L12 =>
  eLet ((1, 11, 16, 0, 0) :: L12) fun L14 =>
  eLet ((hd L12).1) fun r13 =>
  if ((hd L14).2.1 x0).1 = 10 then
  eLet ((5, x0, 4, r13, 0) :: L14) fun L15 =>
  eLet ((1, 11, 16, 0, 0) :: L15) fun L17 =>
  eLet ((hd L15).1) fun r16 =>
  if ((hd L17).2.1 x0).1 = 10 then
  eLet ((5, x0, 5, r16, 0) :: L17) fun L18 =>
  eLet ((1, 11, 16, 0, 0) :: L18) fun L20 =>
  eLet ((hd L18).1) fun r19 =>
  if ((hd L20).2.1 x0).1 = 10 then
  eLet ((5, x0, 6, r19, 0) :: L20) fun L21 =>
  eLet ((1, 11, 16, 0, 0) :: L21) fun L23 =>
  eLet ((hd L21).1) fun r22 =>
  if ((hd L23).2.1 x0).1 = 10 then
  eLet ((5, x0, 7, r22, 0) :: L23) fun L24 =>
  eLet ((1, 11, 128, 0, 0) :: L24) fun L26 =>
  eLet ((hd L24).1) fun r25 =>
  if ((hd L26).2.1 x0).1 = 10 then
  eLet ((5, x0, 8, r25, 0) :: L26) fun L27 =>
  eLet ((1, 11, 15, 0, 0) :: L27) fun L29 =>
  eLet ((hd L27).1) fun r28 =>
  if ((hd L29).2.1 x0).1 = 10 then
  eLet ((5, x0, 9, r28, 0) :: L29) fun L30 =>
  eLet ((1, 11, 15, 0, 0) :: L30) fun L32 =>
  eLet ((hd L30).1) fun r31 =>
  if ((hd L32).2.1 x0).1 = 10 then
  eLet ((5, x0, 10, r31, 0) :: L32) fun L33 =>
  eLet ((1, 11, 1920, 0, 0) :: L33) fun L35 =>
  eLet ((hd L33).1) fun r34 =>
  if ((hd L35).2.1 x0).1 = 10 then
  eLet ((5, x0, 11, r34, 0) :: L35) fun L36 =>
  eLet ((1, 11, 16, 0, 0) :: L36) fun L38 =>
  eLet ((hd L36).1) fun r37 =>
  if ((hd L38).2.1 x0).1 = 10 then
  eLet ((5, x0, 12, r37, 0) :: L38) fun L39 =>
  eLet ((1, 11, 16, 0, 0) :: L39) fun L41 =>
  eLet ((hd L39).1) fun r40 =>
  if ((hd L41).2.1 x0).1 = 10 then
  eLet ((5, x0, 13, r40, 0) :: L41) fun L42 =>
  eLet ((1, 11, 16, 0, 0) :: L42) fun L44 =>
  eLet ((hd L42).1) fun r43 =>
  if ((hd L44).2.1 x0).1 = 10 then
  eLet ((5, x0, 14, r43, 0) :: L44) fun L45 =>
  f_X12_init_c1 x0 L45
  else none
  else none
  else none
  else none
  else none
  else none
  else none
  else none
  else none
  else none
  else none
  else none
  else none
  else none
  else none
  else none
set_option maxHeartbeats 4000000 in
set_option maxRecDepth 20000 in
theorem s_X12_init (x0 : Nat) (L : List eOp) : ∀ L2, f_X12_init x0 L = some L2 → Ew true 1 130 [.inr (.inr (x0))] (hd L) (cI L2) := by
  refine T_meth (md := m_X12_init) (d0 := 0) (cv := cI) rfl (lb rfl) (lb rfl) ?_
  unfold f_X12_init
  show Snd true none _ _ _ _ (0, [(0, .inr (.inr (x0)))], [], hd L, 0, 0)
  refine T_go (S' := (1, [(0, .inr (.inr (x0)))], [.inr (.inr (x0))], hd L, 0, 0)) 1 rfl ?_
  refine TI_obj rfl (fun _ => ?_)
  show Snd true none _ _ _ _ (4, [(0, .inr (.inr (x0)))], [], hd L, 0, 0)
  refine T_go (S' := (7, [(0, .inr (.inr (x0)))], [.inl ((16 : Int32)), .inr (.inr (x0))], hd L, 0, 0)) 2 rfl ?_
  refine T_go (S' := (9, [(0, .inr (.inr (x0)))], [.inr (.inr (((hd L).1))), .inr (.inr (x0))], hd ((1, 11, 16, 0, 0) :: L), 1, 16)) 1 rfl ?_
  refine T_let (Sf := fun L2 => (9, [(0, .inr (.inr (x0)))], [.inr (.inr (((hd L).1))), .inr (.inr (x0))], hd L2, 1, 16)) (fun L2 => ?_)
  refine T_let (Sf := fun r1 => (9, [(0, .inr (.inr (x0)))], [.inr (.inr (r1)), .inr (.inr (x0))], hd L2, 1, 16)) (fun r1 => ?_)
  refine TI_putR rfl (fun _ => ?_)
  refine T_let (Sf := fun L3 => (12, [(0, .inr (.inr (x0)))], [], hd L3, 1, 16)) (fun L3 => ?_)
  refine T_go (S' := (15, [(0, .inr (.inr (x0)))], [.inl ((16 : Int32)), .inr (.inr (x0))], hd L3, 1, 16)) 2 rfl ?_
  refine T_go (S' := (17, [(0, .inr (.inr (x0)))], [.inr (.inr (((hd L3).1))), .inr (.inr (x0))], hd ((1, 11, 16, 0, 0) :: L3), 2, 32)) 1 rfl ?_
  refine T_let (Sf := fun L5 => (17, [(0, .inr (.inr (x0)))], [.inr (.inr (((hd L3).1))), .inr (.inr (x0))], hd L5, 2, 32)) (fun L5 => ?_)
  refine T_let (Sf := fun r4 => (17, [(0, .inr (.inr (x0)))], [.inr (.inr (r4)), .inr (.inr (x0))], hd L5, 2, 32)) (fun r4 => ?_)
  refine TI_putR rfl (fun _ => ?_)
  refine T_let (Sf := fun L6 => (20, [(0, .inr (.inr (x0)))], [], hd L6, 2, 32)) (fun L6 => ?_)
  refine T_go (S' := (23, [(0, .inr (.inr (x0)))], [.inl ((16 : Int32)), .inr (.inr (x0))], hd L6, 2, 32)) 2 rfl ?_
  refine T_go (S' := (25, [(0, .inr (.inr (x0)))], [.inr (.inr (((hd L6).1))), .inr (.inr (x0))], hd ((1, 11, 16, 0, 0) :: L6), 3, 48)) 1 rfl ?_
  refine T_let (Sf := fun L8 => (25, [(0, .inr (.inr (x0)))], [.inr (.inr (((hd L6).1))), .inr (.inr (x0))], hd L8, 3, 48)) (fun L8 => ?_)
  refine T_let (Sf := fun r7 => (25, [(0, .inr (.inr (x0)))], [.inr (.inr (r7)), .inr (.inr (x0))], hd L8, 3, 48)) (fun r7 => ?_)
  refine TI_putR rfl (fun _ => ?_)
  refine T_let (Sf := fun L9 => (28, [(0, .inr (.inr (x0)))], [], hd L9, 3, 48)) (fun L9 => ?_)
  refine T_go (S' := (31, [(0, .inr (.inr (x0)))], [.inl ((16 : Int32)), .inr (.inr (x0))], hd L9, 3, 48)) 2 rfl ?_
  refine T_go (S' := (33, [(0, .inr (.inr (x0)))], [.inr (.inr (((hd L9).1))), .inr (.inr (x0))], hd ((1, 13, 16, 0, 0) :: L9), 4, 64)) 1 rfl ?_
  refine T_let (Sf := fun L11 => (33, [(0, .inr (.inr (x0)))], [.inr (.inr (((hd L9).1))), .inr (.inr (x0))], hd L11, 4, 64)) (fun L11 => ?_)
  refine T_let (Sf := fun r10 => (33, [(0, .inr (.inr (x0)))], [.inr (.inr (r10)), .inr (.inr (x0))], hd L11, 4, 64)) (fun r10 => ?_)
  refine TI_putR rfl (fun _ => ?_)
  refine T_let (Sf := fun L12 => (36, [(0, .inr (.inr (x0)))], [], hd L12, 4, 64)) (fun L12 => ?_)
  refine T_go (S' := (39, [(0, .inr (.inr (x0)))], [.inl ((16 : Int32)), .inr (.inr (x0))], hd L12, 4, 64)) 2 rfl ?_
  refine T_go (S' := (41, [(0, .inr (.inr (x0)))], [.inr (.inr (((hd L12).1))), .inr (.inr (x0))], hd ((1, 11, 16, 0, 0) :: L12), 5, 80)) 1 rfl ?_
  refine T_let (Sf := fun L14 => (41, [(0, .inr (.inr (x0)))], [.inr (.inr (((hd L12).1))), .inr (.inr (x0))], hd L14, 5, 80)) (fun L14 => ?_)
  refine T_let (Sf := fun r13 => (41, [(0, .inr (.inr (x0)))], [.inr (.inr (r13)), .inr (.inr (x0))], hd L14, 5, 80)) (fun r13 => ?_)
  refine TI_putR rfl (fun _ => ?_)
  refine T_let (Sf := fun L15 => (44, [(0, .inr (.inr (x0)))], [], hd L15, 5, 80)) (fun L15 => ?_)
  refine T_go (S' := (47, [(0, .inr (.inr (x0)))], [.inl ((16 : Int32)), .inr (.inr (x0))], hd L15, 5, 80)) 2 rfl ?_
  refine T_go (S' := (49, [(0, .inr (.inr (x0)))], [.inr (.inr (((hd L15).1))), .inr (.inr (x0))], hd ((1, 11, 16, 0, 0) :: L15), 6, 96)) 1 rfl ?_
  refine T_let (Sf := fun L17 => (49, [(0, .inr (.inr (x0)))], [.inr (.inr (((hd L15).1))), .inr (.inr (x0))], hd L17, 6, 96)) (fun L17 => ?_)
  refine T_let (Sf := fun r16 => (49, [(0, .inr (.inr (x0)))], [.inr (.inr (r16)), .inr (.inr (x0))], hd L17, 6, 96)) (fun r16 => ?_)
  refine TI_putR rfl (fun _ => ?_)
  refine T_let (Sf := fun L18 => (52, [(0, .inr (.inr (x0)))], [], hd L18, 6, 96)) (fun L18 => ?_)
  refine T_go (S' := (55, [(0, .inr (.inr (x0)))], [.inl ((16 : Int32)), .inr (.inr (x0))], hd L18, 6, 96)) 2 rfl ?_
  refine T_go (S' := (57, [(0, .inr (.inr (x0)))], [.inr (.inr (((hd L18).1))), .inr (.inr (x0))], hd ((1, 11, 16, 0, 0) :: L18), 7, 112)) 1 rfl ?_
  refine T_let (Sf := fun L20 => (57, [(0, .inr (.inr (x0)))], [.inr (.inr (((hd L18).1))), .inr (.inr (x0))], hd L20, 7, 112)) (fun L20 => ?_)
  refine T_let (Sf := fun r19 => (57, [(0, .inr (.inr (x0)))], [.inr (.inr (r19)), .inr (.inr (x0))], hd L20, 7, 112)) (fun r19 => ?_)
  refine TI_putR rfl (fun _ => ?_)
  refine T_let (Sf := fun L21 => (60, [(0, .inr (.inr (x0)))], [], hd L21, 7, 112)) (fun L21 => ?_)
  refine T_go (S' := (63, [(0, .inr (.inr (x0)))], [.inl ((16 : Int32)), .inr (.inr (x0))], hd L21, 7, 112)) 2 rfl ?_
  refine T_go (S' := (65, [(0, .inr (.inr (x0)))], [.inr (.inr (((hd L21).1))), .inr (.inr (x0))], hd ((1, 11, 16, 0, 0) :: L21), 8, 128)) 1 rfl ?_
  refine T_let (Sf := fun L23 => (65, [(0, .inr (.inr (x0)))], [.inr (.inr (((hd L21).1))), .inr (.inr (x0))], hd L23, 8, 128)) (fun L23 => ?_)
  refine T_let (Sf := fun r22 => (65, [(0, .inr (.inr (x0)))], [.inr (.inr (r22)), .inr (.inr (x0))], hd L23, 8, 128)) (fun r22 => ?_)
  refine TI_putR rfl (fun _ => ?_)
  refine T_let (Sf := fun L24 => (68, [(0, .inr (.inr (x0)))], [], hd L24, 8, 128)) (fun L24 => ?_)
  refine T_go (S' := (72, [(0, .inr (.inr (x0)))], [.inl ((128 : Int32)), .inr (.inr (x0))], hd L24, 8, 128)) 2 rfl ?_
  refine T_go (S' := (74, [(0, .inr (.inr (x0)))], [.inr (.inr (((hd L24).1))), .inr (.inr (x0))], hd ((1, 11, 128, 0, 0) :: L24), 9, 256)) 1 rfl ?_
  refine T_let (Sf := fun L26 => (74, [(0, .inr (.inr (x0)))], [.inr (.inr (((hd L24).1))), .inr (.inr (x0))], hd L26, 9, 256)) (fun L26 => ?_)
  refine T_let (Sf := fun r25 => (74, [(0, .inr (.inr (x0)))], [.inr (.inr (r25)), .inr (.inr (x0))], hd L26, 9, 256)) (fun r25 => ?_)
  refine TI_putR rfl (fun _ => ?_)
  refine T_let (Sf := fun L27 => (77, [(0, .inr (.inr (x0)))], [], hd L27, 9, 256)) (fun L27 => ?_)
  refine T_go (S' := (80, [(0, .inr (.inr (x0)))], [.inl ((15 : Int32)), .inr (.inr (x0))], hd L27, 9, 256)) 2 rfl ?_
  refine T_go (S' := (82, [(0, .inr (.inr (x0)))], [.inr (.inr (((hd L27).1))), .inr (.inr (x0))], hd ((1, 11, 15, 0, 0) :: L27), 10, 271)) 1 rfl ?_
  refine T_let (Sf := fun L29 => (82, [(0, .inr (.inr (x0)))], [.inr (.inr (((hd L27).1))), .inr (.inr (x0))], hd L29, 10, 271)) (fun L29 => ?_)
  refine T_let (Sf := fun r28 => (82, [(0, .inr (.inr (x0)))], [.inr (.inr (r28)), .inr (.inr (x0))], hd L29, 10, 271)) (fun r28 => ?_)
  refine TI_putR rfl (fun _ => ?_)
  refine T_let (Sf := fun L30 => (85, [(0, .inr (.inr (x0)))], [], hd L30, 10, 271)) (fun L30 => ?_)
  refine T_go (S' := (88, [(0, .inr (.inr (x0)))], [.inl ((15 : Int32)), .inr (.inr (x0))], hd L30, 10, 271)) 2 rfl ?_
  refine T_go (S' := (90, [(0, .inr (.inr (x0)))], [.inr (.inr (((hd L30).1))), .inr (.inr (x0))], hd ((1, 11, 15, 0, 0) :: L30), 11, 286)) 1 rfl ?_
  refine T_let (Sf := fun L32 => (90, [(0, .inr (.inr (x0)))], [.inr (.inr (((hd L30).1))), .inr (.inr (x0))], hd L32, 11, 286)) (fun L32 => ?_)
  refine T_let (Sf := fun r31 => (90, [(0, .inr (.inr (x0)))], [.inr (.inr (r31)), .inr (.inr (x0))], hd L32, 11, 286)) (fun r31 => ?_)
  refine TI_putR rfl (fun _ => ?_)
  refine T_let (Sf := fun L33 => (93, [(0, .inr (.inr (x0)))], [], hd L33, 11, 286)) (fun L33 => ?_)
  refine T_go (S' := (97, [(0, .inr (.inr (x0)))], [.inl ((1920 : Int32)), .inr (.inr (x0))], hd L33, 11, 286)) 2 rfl ?_
  refine T_go (S' := (99, [(0, .inr (.inr (x0)))], [.inr (.inr (((hd L33).1))), .inr (.inr (x0))], hd ((1, 11, 1920, 0, 0) :: L33), 12, 2206)) 1 rfl ?_
  refine T_let (Sf := fun L35 => (99, [(0, .inr (.inr (x0)))], [.inr (.inr (((hd L33).1))), .inr (.inr (x0))], hd L35, 12, 2206)) (fun L35 => ?_)
  refine T_let (Sf := fun r34 => (99, [(0, .inr (.inr (x0)))], [.inr (.inr (r34)), .inr (.inr (x0))], hd L35, 12, 2206)) (fun r34 => ?_)
  refine TI_putR rfl (fun _ => ?_)
  refine T_let (Sf := fun L36 => (102, [(0, .inr (.inr (x0)))], [], hd L36, 12, 2206)) (fun L36 => ?_)
  refine T_go (S' := (105, [(0, .inr (.inr (x0)))], [.inl ((16 : Int32)), .inr (.inr (x0))], hd L36, 12, 2206)) 2 rfl ?_
  refine T_go (S' := (107, [(0, .inr (.inr (x0)))], [.inr (.inr (((hd L36).1))), .inr (.inr (x0))], hd ((1, 11, 16, 0, 0) :: L36), 13, 2222)) 1 rfl ?_
  refine T_let (Sf := fun L38 => (107, [(0, .inr (.inr (x0)))], [.inr (.inr (((hd L36).1))), .inr (.inr (x0))], hd L38, 13, 2222)) (fun L38 => ?_)
  refine T_let (Sf := fun r37 => (107, [(0, .inr (.inr (x0)))], [.inr (.inr (r37)), .inr (.inr (x0))], hd L38, 13, 2222)) (fun r37 => ?_)
  refine TI_putR rfl (fun _ => ?_)
  refine T_let (Sf := fun L39 => (110, [(0, .inr (.inr (x0)))], [], hd L39, 13, 2222)) (fun L39 => ?_)
  refine T_go (S' := (113, [(0, .inr (.inr (x0)))], [.inl ((16 : Int32)), .inr (.inr (x0))], hd L39, 13, 2222)) 2 rfl ?_
  refine T_go (S' := (115, [(0, .inr (.inr (x0)))], [.inr (.inr (((hd L39).1))), .inr (.inr (x0))], hd ((1, 11, 16, 0, 0) :: L39), 14, 2238)) 1 rfl ?_
  refine T_let (Sf := fun L41 => (115, [(0, .inr (.inr (x0)))], [.inr (.inr (((hd L39).1))), .inr (.inr (x0))], hd L41, 14, 2238)) (fun L41 => ?_)
  refine T_let (Sf := fun r40 => (115, [(0, .inr (.inr (x0)))], [.inr (.inr (r40)), .inr (.inr (x0))], hd L41, 14, 2238)) (fun r40 => ?_)
  refine TI_putR rfl (fun _ => ?_)
  refine T_let (Sf := fun L42 => (118, [(0, .inr (.inr (x0)))], [], hd L42, 14, 2238)) (fun L42 => ?_)
  refine T_go (S' := (121, [(0, .inr (.inr (x0)))], [.inl ((16 : Int32)), .inr (.inr (x0))], hd L42, 14, 2238)) 2 rfl ?_
  refine T_go (S' := (123, [(0, .inr (.inr (x0)))], [.inr (.inr (((hd L42).1))), .inr (.inr (x0))], hd ((1, 11, 16, 0, 0) :: L42), 15, 2254)) 1 rfl ?_
  refine T_let (Sf := fun L44 => (123, [(0, .inr (.inr (x0)))], [.inr (.inr (((hd L42).1))), .inr (.inr (x0))], hd L44, 15, 2254)) (fun L44 => ?_)
  refine T_let (Sf := fun r43 => (123, [(0, .inr (.inr (x0)))], [.inr (.inr (r43)), .inr (.inr (x0))], hd L44, 15, 2254)) (fun r43 => ?_)
  refine TI_putR rfl (fun _ => ?_)
  refine T_let (Sf := fun L45 => (126, [(0, .inr (.inr (x0)))], [], hd L45, 15, 2254)) (fun L45 => ?_)
  exact s_X12_init_c1 x0 L45
