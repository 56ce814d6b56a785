/-! the constructors -/
abbrev eOp : Type := Nat × Nat × Nat × Nat × Int32
def hap : eOp → eH → eH
  | (0, a, _, _, _), h => (h.1 + 1, eupA h.2.1 h.1 (a, 0), eupA h.2.2.1 h.1 (fun _ => 0), eupA h.2.2.2.1 h.1 (fun _ => 0), h.2.2.2.2)
  | (1, a, n, _, _), h => (h.1 + 1, eupA h.2.1 h.1 (a, n), eupA h.2.2.1 h.1 (fun _ => 0), eupA h.2.2.2.1 h.1 (fun _ => 0), eupA h.2.2.2.2 h.1 (fun _ => 0))
  | (2, a, n, _, _), h => (h.1 + 1, eupA h.2.1 h.1 (a, n), eupA h.2.2.1 h.1 (fun _ => 0), eupA h.2.2.2.1 h.1 (fun _ => 0), h.2.2.2.2)
  | (3, n, k, _, _), h => (h.1 + 1 + n, (fun r => if h.1 ≤ r ∧ r < h.1 + 1 + n then (if r = h.1 then (17, n) else (11, k)) else h.2.1 r), (fun r => if h.1 ≤ r ∧ r < h.1 + 1 + n then (fun _ => 0) else h.2.2.1 r), eupA h.2.2.2.1 h.1 (fun j => if j < n then h.1 + 1 + j else 0), h.2.2.2.2)
  | (4, r, k, _, x), h => (h.1, h.2.1, eup h.2.2.1 r k x, h.2.2.2.1, h.2.2.2.2)
  | (_, r, k, v, _), h => (h.1, h.2.1, h.2.2.1, eup h.2.2.2.1 r k v, h.2.2.2.2)
def hd : List eOp → eH
  | [] => (2, fun _ => (99, 0), fun _ _ => 0, fun _ _ => 0, fun _ _ => 0)
  | p :: t => hap p (hd t)
abbrev cI (L : List eOp) : eR := .inl (none, hd L)
section ERJ
variable {md : eM} {ρ : Type} {d pc : Nat} {ls : eL} {t : List eV} {L : List eOp} {c z : Nat} {X : Option ρ} {cv : ρ → eR} {oc maxL rt mc ms : Nat} {hs : List (Nat × Nat × Nat × Nat)} {cd : eC} {idx : Nat} {a1 a2 a3 a4 a5 a6 : Nat} {w : Nat × Nat × Nat × Nat × Nat × Nat}
theorem TI_putI {r : Nat} {x : Int32} (hel : elk cd pc = some (.putfield idx, a1, a2, 0, a4, a5, a6)) (H : ((hd L).2.1 r).1 = a1 → Snd true none d (oc, maxL, rt, mc, ms, hs, cd) X cv (pc + 3, ls, t, hd ((4, r, a2, 0, x) :: L), c, z)) : Snd true none d (oc, maxL, rt, mc, ms, hs, cd) (if ((hd L).2.1 r).1 = a1 then X else none) cv (pc, ls, .inl x :: .inr (.inr r) :: t, hd L, c, z) := by
  refine T_chk (S1 := (pc + 3, ls, t, hd ((4, r, a2, 0, x) :: L), c, z)) ?_ H
  unfold stp
  dsimp only
  rw [hel]
  rfl
theorem TI_putZ {r : Nat} {x : Int32} (hel : elk cd pc = some (.putfield idx, a1, a2, 2, a4, a5, a6)) (H : ((hd L).2.1 r).1 = a1 ∧ eB x = true → Snd true none d (oc, maxL, rt, mc, ms, hs, cd) X cv (pc + 3, ls, t, hd ((4, r, a2, 0, x) :: L), c, z)) : Snd true none d (oc, maxL, rt, mc, ms, hs, cd) (if ((hd L).2.1 r).1 = a1 ∧ eB x = true then X else none) cv (pc, ls, .inl x :: .inr (.inr r) :: t, hd L, c, z) := by
  refine T_chk (S1 := (pc + 3, ls, t, hd ((4, r, a2, 0, x) :: L), c, z)) ?_ H
  unfold stp
  dsimp only
  rw [hel]
  rfl
theorem TI_putR {r x : Nat} (hel : elk cd pc = some (.putfield idx, a1, a2, 1, a4, a5, a6)) (H : ((hd L).2.1 r).1 = a1 → Snd true none d (oc, maxL, rt, mc, ms, hs, cd) X cv (pc + 3, ls, t, hd ((5, r, a2, x, 0) :: L), c, z)) : Snd true none d (oc, maxL, rt, mc, ms, hs, cd) (if ((hd L).2.1 r).1 = a1 then X else none) cv (pc, ls, .inr (.inr x) :: .inr (.inr r) :: t, hd L, c, z) := by
  refine T_chk (S1 := (pc + 3, ls, t, hd ((5, r, a2, x, 0) :: L), c, z)) ?_ H
  unfold stp
  dsimp only
  rw [hel]
  rfl
theorem TI_getR {r : Nat} (hel : elk cd pc = some (.getfield idx, a1, a2, 1, a4, a5, a6)) (H : ((hd L).2.1 r).1 = a1 → Snd true none d (oc, maxL, rt, mc, ms, hs, cd) X cv (pc + 3, ls, .inr (.inr ((hd L).2.2.2.1 r a2)) :: t, hd L, c, z)) : Snd true none d (oc, maxL, rt, mc, ms, hs, cd) (if ((hd L).2.1 r).1 = a1 then X else none) cv (pc, ls, .inr (.inr r) :: t, hd L, c, z) := by
  refine T_chk (S1 := (pc + 3, ls, .inr (.inr ((hd L).2.2.2.1 r a2)) :: t, hd L, c, z)) ?_ H
  unfold stp
  dsimp only
  rw [hel]
  rfl
theorem TI_iast {r : Nat} {i x : Int32} (hel : elk cd pc = some (.iastore, w)) (H : ((hd L).2.1 r).1 = 11 ∧ eix i ((hd L).2.1 r).2 = true → Snd true none d (oc, maxL, rt, mc, ms, hs, cd) X cv (pc + 1, ls, t, hd ((4, r, i.toNatClampNeg, 0, x) :: L), c, z)) : Snd true none d (oc, maxL, rt, mc, ms, hs, cd) (if ((hd L).2.1 r).1 = 11 ∧ eix i ((hd L).2.1 r).2 = true then X else none) cv (pc, ls, .inl x :: .inl i :: .inr (.inr r) :: t, hd L, c, z) := by
  refine T_chk (S1 := (pc + 1, ls, t, hd ((4, r, i.toNatClampNeg, 0, x) :: L), c, z)) ?_ H
  unfold stp
  dsimp only
  rw [hel]
  rfl
theorem TI_aast {r x : Nat} {i : Int32} (hel : elk cd pc = some (.aastore, a1, a2, a3, a4, a5, a6)) (H : ((hd L).2.1 r).1 = a1 ∧ eix i ((hd L).2.1 r).2 = true ∧ ((hd L).2.1 x).1 = a2 → Snd true none d (oc, maxL, rt, mc, ms, hs, cd) X cv (pc + 1, ls, t, hd ((5, r, i.toNatClampNeg, x, 0) :: L), c, z)) : Snd true none d (oc, maxL, rt, mc, ms, hs, cd) (if ((hd L).2.1 r).1 = a1 ∧ eix i ((hd L).2.1 r).2 = true ∧ ((hd L).2.1 x).1 = a2 then X else none) cv (pc, ls, .inr (.inr x) :: .inl i :: .inr (.inr r) :: t, hd L, c, z) := by
  refine T_chk (S1 := (pc + 1, ls, t, hd ((5, r, i.toNatClampNeg, x, 0) :: L), c, z)) ?_ H
  unfold stp
  dsimp only
  rw [hel]
  rfl
theorem TI_obj {r : Nat} (hel : elk cd pc = some (.invokespecial idx, a1, 0, a3, a4, a5, a6)) (H : 2 ≤ r ∧ ecats t ≤ 8 → Snd true none d (oc, maxL, rt, mc, ms, hs, cd) X cv (pc + 3, ls, t, hd L, c, z)) : Snd true none d (oc, maxL, rt, mc, ms, hs, cd) (if 2 ≤ r ∧ ecats t ≤ 8 then X else none) cv (pc, ls, .inr (.inr r) :: t, hd L, c, z) := by
  refine T_chk (S1 := (pc + 3, ls, t, hd L, c, z)) ?_ H
  unfold stp
  dsimp only
  rw [hel]
  rfl
theorem TI_isp {b y n f g r : Nat} {st as rest : List eV} {G : Option (List eOp)} {K : List eOp → Option ρ} (hel : elk cd pc = some (.invokespecial idx, y, b + 1, n, a4, f, g)) (hr : st.drop n = .inr (.inr r) :: rest) (has : (st.take (n + 1)).reverse = as) (hc : c + f ≤ mc ∧ z + g ≤ ms ∧ ecats rest ≤ 8 ∧ n + 1 ≤ st.length) (hg : ∀ L2, G = some L2 → Ew true d y as (hd L) (cI L2)) (hk : ((hd L).2.1 r).1 = a4 → ∀ L2, Snd true none d (oc, maxL, rt, mc, ms, hs, cd) (K L2) cv (pc + 3, ls, rest, hd L2, c + f, z + g)) : Snd true none d (oc, maxL, rt, mc, ms, hs, cd) (if ((hd L).2.1 r).1 = a4 then G.bind K else none) cv (pc, ls, st, hd L, c, z) := by
  refine T_callc (as := as) (rest := rest) (c := c + f) (z := z + g) (w := 0) (vv := fun _ => none) (hh := fun L2 => hd L2) ?_ hg hk
  unfold stp
  dsimp only
  rw [hel]
  show (match st.drop n with | .inr (.inr r) :: _ => (if ((hd L).2.1 r).1 = a4 then ecall mc ms y (n + 1) f g pc ls st (hd L) c z else estk) | _ => estk) = _
  rw [hr]
  dsimp only
  unfold ecall
  have hd : st.drop (n + 1) = rest := by rw [← List.tail_drop, hr]; rfl
  rw [hd, has, if_pos hc]
end ERJ
def f_X7_init (x0 : Nat) (L : List eOp) : Option (List eOp) :=
  if 2 ≤ x0 ∧ ecats [] ≤ 8 then
  if ((hd L).2.1 x0).1 = 6 then
  eLet ((4, x0, 0, 0, (-1 : Int32)) :: L) fun L1 =>
  if ((hd L1).2.1 x0).1 = 6 then
  eLet ((4, x0, 1, 0, (0 : Int32)) :: L1) fun L2 =>
  if ((hd L2).2.1 x0).1 = 6 then
  eLet ((4, x0, 2, 0, (0 : Int32)) :: L2) fun L3 =>
  if ((hd L3).2.1 x0).1 = 6 then
  eLet ((4, x0, 3, 0, (0 : Int32)) :: L3) fun L4 =>
  if ((hd L4).2.1 x0).1 = 6 ∧ eB (0 : Int32) = true then
  eLet ((4, x0, 4, 0, (0 : Int32)) :: L4) fun L5 =>
  if ((hd L5).2.1 x0).1 = 6 then
  eLet ((4, x0, 5, 0, (0 : Int32)) :: L5) fun L6 =>
  some L6
  else none
  else none
  else none
  else none
  else none
  else none
  else none
set_option maxHeartbeats 4000000 in
set_option maxRecDepth 20000 in
theorem s_X7_init (x0 : Nat) (L : List eOp) : ∀ L2, f_X7_init x0 L = some L2 → Ew true 1 64 [.inr (.inr (x0))] (hd L) (cI L2) := by
  refine T_meth (md := m_X7_init) (d0 := 0) (cv := cI) rfl (lb rfl) (lb rfl) ?_
  unfold f_X7_init
  show Snd true none _ _ _ _ (0, [(0, .inr (.inr (x0)))], [], hd L, 0, 0)
  refine T_go (S' := (1, [(0, .inr (.inr (x0)))], [.inr (.inr (x0))], hd L, 0, 0)) 1 rfl ?_
  refine TI_obj rfl (fun _ => ?_)
  show Snd true none _ _ _ _ (4, [(0, .inr (.inr (x0)))], [], hd L, 0, 0)
  refine T_go (S' := (6, [(0, .inr (.inr (x0)))], [.inl ((-1 : Int32)), .inr (.inr (x0))], hd L, 0, 0)) 2 rfl ?_
  refine TI_putI rfl (fun _ => ?_)
  refine T_let (Sf := fun L1 => (9, [(0, .inr (.inr (x0)))], [], hd L1, 0, 0)) (fun L1 => ?_)
  refine T_go (S' := (11, [(0, .inr (.inr (x0)))], [.inl ((0 : Int32)), .inr (.inr (x0))], hd L1, 0, 0)) 2 rfl ?_
  refine TI_putI rfl (fun _ => ?_)
  refine T_let (Sf := fun L2 => (14, [(0, .inr (.inr (x0)))], [], hd L2, 0, 0)) (fun L2 => ?_)
  refine T_go (S' := (16, [(0, .inr (.inr (x0)))], [.inl ((0 : Int32)), .inr (.inr (x0))], hd L2, 0, 0)) 2 rfl ?_
  refine TI_putI rfl (fun _ => ?_)
  refine T_let (Sf := fun L3 => (19, [(0, .inr (.inr (x0)))], [], hd L3, 0, 0)) (fun L3 => ?_)
  refine T_go (S' := (21, [(0, .inr (.inr (x0)))], [.inl ((0 : Int32)), .inr (.inr (x0))], hd L3, 0, 0)) 2 rfl ?_
  refine TI_putI rfl (fun _ => ?_)
  refine T_let (Sf := fun L4 => (24, [(0, .inr (.inr (x0)))], [], hd L4, 0, 0)) (fun L4 => ?_)
  refine T_go (S' := (26, [(0, .inr (.inr (x0)))], [.inl ((0 : Int32)), .inr (.inr (x0))], hd L4, 0, 0)) 2 rfl ?_
  refine TI_putZ rfl (fun _ => ?_)
  refine T_let (Sf := fun L5 => (29, [(0, .inr (.inr (x0)))], [], hd L5, 0, 0)) (fun L5 => ?_)
  refine T_go (S' := (31, [(0, .inr (.inr (x0)))], [.inl ((0 : Int32)), .inr (.inr (x0))], hd L5, 0, 0)) 2 rfl ?_
  refine TI_putI rfl (fun _ => ?_)
  refine T_let (Sf := fun L6 => (34, [(0, .inr (.inr (x0)))], [], hd L6, 0, 0)) (fun L6 => ?_)
  exact T_ret rfl
def f_X10_init (x0 : Nat) (L : List eOp) : Option (List eOp) :=
  if 2 ≤ x0 ∧ ecats [] ≤ 8 then
  if ((hd L).2.1 x0).1 = 8 ∧ eB (0 : Int32) = true then
  eLet ((4, x0, 0, 0, (0 : Int32)) :: L) fun L1 =>
  if ((hd L1).2.1 x0).1 = 8 ∧ eB (0 : Int32) = true then
  eLet ((4, x0, 1, 0, (0 : Int32)) :: L1) fun L2 =>
  if ((hd L2).2.1 x0).1 = 8 then
  eLet ((4, x0, 2, 0, (0 : Int32)) :: L2) fun L3 =>
  if ((hd L3).2.1 x0).1 = 8 then
  eLet ((4, x0, 3, 0, (0 : Int32)) :: L3) fun L4 =>
  if ((hd L4).2.1 x0).1 = 8 then
  eLet ((4, x0, 4, 0, (0 : Int32)) :: L4) fun L5 =>
  eLet ((1, 13, 16, 0, 0) :: L5) fun L7 =>
  eLet ((hd L5).1) fun r6 =>
  if ((hd L7).2.1 x0).1 = 8 then
  eLet ((5, x0, 5, r6, 0) :: L7) fun L8 =>
  eLet ((1, 11, 16, 0, 0) :: L8) fun L10 =>
  eLet ((hd L8).1) fun r9 =>
  if ((hd L10).2.1 x0).1 = 8 then
  eLet ((5, x0, 6, r9, 0) :: L10) fun L11 =>
  some L11
  else none
  else none
  else none
  else none
  else none
  else none
  else none
  else none
set_option maxHeartbeats 4000000 in
set_option maxRecDepth 20000 in
theorem s_X10_init (x0 : Nat) (L : List eOp) : ∀ L2, f_X10_init x0 L = some L2 → Ew true 1 88 [.inr (.inr (x0))] (hd L) (cI L2) := by
  refine T_meth (md := m_X10_init) (d0 := 0) (cv := cI) rfl (lb rfl) (lb rfl) ?_
  unfold f_X10_init
  show Snd true none _ _ _ _ (0, [(0, .inr (.inr (x0)))], [], hd L, 0, 0)
  refine T_go (S' := (1, [(0, .inr (.inr (x0)))], [.inr (.inr (x0))], hd L, 0, 0)) 1 rfl ?_
  refine TI_obj rfl (fun _ => ?_)
  show Snd true none _ _ _ _ (4, [(0, .inr (.inr (x0)))], [], hd L, 0, 0)
  refine T_go (S' := (6, [(0, .inr (.inr (x0)))], [.inl ((0 : Int32)), .inr (.inr (x0))], hd L, 0, 0)) 2 rfl ?_
  refine TI_putZ rfl (fun _ => ?_)
  refine T_let (Sf := fun L1 => (9, [(0, .inr (.inr (x0)))], [], hd L1, 0, 0)) (fun L1 => ?_)
  refine T_go (S' := (11, [(0, .inr (.inr (x0)))], [.inl ((0 : Int32)), .inr (.inr (x0))], hd L1, 0, 0)) 2 rfl ?_
  refine TI_putZ rfl (fun _ => ?_)
  refine T_let (Sf := fun L2 => (14, [(0, .inr (.inr (x0)))], [], hd L2, 0, 0)) (fun L2 => ?_)
  refine T_go (S' := (16, [(0, .inr (.inr (x0)))], [.inl ((0 : Int32)), .inr (.inr (x0))], hd L2, 0, 0)) 2 rfl ?_
  refine TI_putI rfl (fun _ => ?_)
  refine T_let (Sf := fun L3 => (19, [(0, .inr (.inr (x0)))], [], hd L3, 0, 0)) (fun L3 => ?_)
  refine T_go (S' := (21, [(0, .inr (.inr (x0)))], [.inl ((0 : Int32)), .inr (.inr (x0))], hd L3, 0, 0)) 2 rfl ?_
  refine TI_putI rfl (fun _ => ?_)
  refine T_let (Sf := fun L4 => (24, [(0, .inr (.inr (x0)))], [], hd L4, 0, 0)) (fun L4 => ?_)
  refine T_go (S' := (26, [(0, .inr (.inr (x0)))], [.inl ((0 : Int32)), .inr (.inr (x0))], hd L4, 0, 0)) 2 rfl ?_
  refine TI_putI rfl (fun _ => ?_)
  refine T_let (Sf := fun L5 => (29, [(0, .inr (.inr (x0)))], [], hd L5, 0, 0)) (fun L5 => ?_)
  refine T_go (S' := (32, [(0, .inr (.inr (x0)))], [.inl ((16 : Int32)), .inr (.inr (x0))], hd L5, 0, 0)) 2 rfl ?_
  refine T_go (S' := (34, [(0, .inr (.inr (x0)))], [.inr (.inr (((hd L5).1))), .inr (.inr (x0))], hd ((1, 13, 16, 0, 0) :: L5), 1, 16)) 1 rfl ?_
  refine T_let (Sf := fun L7 => (34, [(0, .inr (.inr (x0)))], [.inr (.inr (((hd L5).1))), .inr (.inr (x0))], hd L7, 1, 16)) (fun L7 => ?_)
  refine T_let (Sf := fun r6 => (34, [(0, .inr (.inr (x0)))], [.inr (.inr (r6)), .inr (.inr (x0))], hd L7, 1, 16)) (fun r6 => ?_)
  refine TI_putR rfl (fun _ => ?_)
  refine T_let (Sf := fun L8 => (37, [(0, .inr (.inr (x0)))], [], hd L8, 1, 16)) (fun L8 => ?_)
  refine T_go (S' := (40, [(0, .inr (.inr (x0)))], [.inl ((16 : Int32)), .inr (.inr (x0))], hd L8, 1, 16)) 2 rfl ?_
  refine T_go (S' := (42, [(0, .inr (.inr (x0)))], [.inr (.inr (((hd L8).1))), .inr (.inr (x0))], hd ((1, 11, 16, 0, 0) :: L8), 2, 32)) 1 rfl ?_
  refine T_let (Sf := fun L10 => (42, [(0, .inr (.inr (x0)))], [.inr (.inr (((hd L8).1))), .inr (.inr (x0))], hd L10, 2, 32)) (fun L10 => ?_)
  refine T_let (Sf := fun r9 => (42, [(0, .inr (.inr (x0)))], [.inr (.inr (r9)), .inr (.inr (x0))], hd L10, 2, 32)) (fun r9 => ?_)
  refine TI_putR rfl (fun _ => ?_)
  refine T_let (Sf := fun L11 => (45, [(0, .inr (.inr (x0)))], [], hd L11, 2, 32)) (fun L11 => ?_)
  exact T_ret rfl
def f_X0_init (x0 : Nat) (x1 : Int32) (x2 : Nat) (x3 : Nat) (L : List eOp) : Option (List eOp) :=
  if 2 ≤ x0 ∧ ecats [] ≤ 8 then
  eLet ((2, 16, 4, 0, 0) :: L) fun L2 =>
  eLet ((hd L).1) fun r1 =>
  if ((hd L2).2.1 x0).1 = 0 then
  eLet ((5, x0, 3, r1, 0) :: L2) fun L3 =>
  eLet ((1, 11, 16, 0, 0) :: L3) fun L5 =>
  eLet ((hd L3).1) fun r4 =>
  if ((hd L5).2.1 x0).1 = 0 then
  eLet ((5, x0, 4, r4, 0) :: L5) fun L6 =>
  eLet ((1, 11, 4, 0, 0) :: L6) fun L8 =>
  eLet ((hd L6).1) fun r7 =>
  if ((hd L8).2.1 x0).1 = 0 then
  eLet ((5, x0, 5, r7, 0) :: L8) fun L9 =>
  eLet ((1, 11, 4, 0, 0) :: L9) fun L11 =>
  eLet ((hd L9).1) fun r10 =>
  if ((hd L11).2.1 x0).1 = 0 then
  eLet ((5, x0, 6, r10, 0) :: L11) fun L12 =>
  if ((hd L12).2.1 x0).1 = 0 then
  eLet ((4, x0, 7, 0, (0 : Int32)) :: L12) fun L13 =>
  eLet ((0, 8, 0, 0, 0) :: L13) fun L15 =>
  eLet ((hd L13).1) fun r14 =>
  if ((hd L15).2.1 r14).1 = 8 then
  Option.bind (f_X10_init r14 L15) fun L16 =>
  if ((hd L16).2.1 x0).1 = 0 then
  eLet ((5, x0, 8, r14, 0) :: L16) fun L17 =>
  if ((hd L17).2.1 x0).1 = 0 then
  eLet ((4, x0, 9, 0, (0 : Int32)) :: L17) fun L18 =>
  if ((hd L18).2.1 x0).1 = 0 then
  eLet ((4, x0, 10, 0, (-1 : Int32)) :: L18) fun L19 =>
  if ((hd L19).2.1 x0).1 = 0 then
  eLet ((4, x0, 11, 0, (0 : Int32)) :: L19) fun L20 =>
  if ((hd L20).2.1 x0).1 = 0 then
  eLet ((4, x0, 0, 0, x1) :: L20) fun L21 =>
  if ((hd L21).2.1 x0).1 = 0 then
  eLet ((5, x0, 1, x2, 0) :: L21) fun L22 =>
  if ((hd L22).2.1 x0).1 = 0 then
  eLet ((5, x0, 2, x3, 0) :: L22) fun L23 =>
  if ((hd L23).2.1 x0).1 = 0 then
  eLet ((hd L23).2.2.2.1 x0 3) fun r24 =>
  eLet ((0, 6, 0, 0, 0) :: L23) fun L26 =>
  eLet ((hd L23).1) fun r25 =>
  if ((hd L26).2.1 r25).1 = 6 then
  Option.bind (f_X7_init r25 L26) fun L27 =>
  if ((hd L27).2.1 r24).1 = 16 ∧ eix (0 : Int32) ((hd L27).2.1 r24).2 = true ∧ ((hd L27).2.1 r25).1 = 6 then
  eLet ((5, r24, 0, r25, 0) :: L27) fun L28 =>
  if ((hd L28).2.1 x0).1 = 0 then
  eLet ((hd L28).2.2.2.1 x0 3) fun r29 =>
  eLet ((0, 6, 0, 0, 0) :: L28) fun L31 =>
  eLet ((hd L28).1) fun r30 =>
  if ((hd L31).2.1 r30).1 = 6 then
  Option.bind (f_X7_init r30 L31) fun L32 =>
  if ((hd L32).2.1 r29).1 = 16 ∧ eix (1 : Int32) ((hd L32).2.1 r29).2 = true ∧ ((hd L32).2.1 r30).1 = 6 then
  eLet ((5, r29, 1, r30, 0) :: L32) fun L33 =>
  if ((hd L33).2.1 x0).1 = 0 then
  eLet ((hd L33).2.2.2.1 x0 3) fun r34 =>
  eLet ((0, 6, 0, 0, 0) :: L33) fun L36 =>
  eLet ((hd L33).1) fun r35 =>
  if ((hd L36).2.1 r35).1 = 6 then
  Option.bind (f_X7_init r35 L36) fun L37 =>
  if ((hd L37).2.1 r34).1 = 16 ∧ eix (2 : Int32) ((hd L37).2.1 r34).2 = true ∧ ((hd L37).2.1 r35).1 = 6 then
  eLet ((5, r34, 2, r35, 0) :: L37) fun L38 =>
  if ((hd L38).2.1 x0).1 = 0 then
  eLet ((hd L38).2.2.2.1 x0 3) fun r39 =>
  eLet ((0, 6, 0, 0, 0) :: L38) fun L41 =>
  eLet ((hd L38).1) fun r40 =>
  if ((hd L41).2.1 r40).1 = 6 then
  Option.bind (f_X7_init r40 L41) fun L42 =>
  if ((hd L42).2.1 r39).1 = 16 ∧ eix (3 : Int32) ((hd L42).2.1 r39).2 = true ∧ ((hd L42).2.1 r40).1 = 6 then
  eLet ((5, r39, 3, r40, 0) :: L42) fun L43 =>
  if ((hd L43).2.1 x0).1 = 0 then
  eLet ((hd L43).2.2.2.1 x0 4) fun r44 =>
  if ((hd L43).2.1 r44).1 = 11 ∧ eix (0 : Int32) ((hd L43).2.1 r44).2 = true then
  eLet ((4, r44, 0, 0, (-1 : Int32)) :: L43) fun L45 =>
  if ((hd L45).2.1 x0).1 = 0 then
  eLet ((hd L45).2.2.2.1 x0 4) fun r46 =>
  if ((hd L45).2.1 r46).1 = 11 ∧ eix (1 : Int32) ((hd L45).2.1 r46).2 = true then
  eLet ((4, r46, 1, 0, (-1 : Int32)) :: L45) fun L47 =>
  if ((hd L47).2.1 x0).1 = 0 then
  eLet ((hd L47).2.2.2.1 x0 4) fun r48 =>
  if ((hd L47).2.1 r48).1 = 11 ∧ eix (2 : Int32) ((hd L47).2.1 r48).2 = true then
  eLet ((4, r48, 2, 0, (-1 : Int32)) :: L47) fun L49 =>
  if ((hd L49).2.1 x0).1 = 0 then
  eLet ((hd L49).2.2.2.1 x0 4) fun r50 =>
  if ((hd L49).2.1 r50).1 = 11 ∧ eix (3 : Int32) ((hd L49).2.1 r50).2 = true then
  eLet ((4, r50, 3, 0, (-1 : Int32)) :: L49) fun L51 =>
  if ((hd L51).2.1 x0).1 = 0 then
  eLet ((hd L51).2.2.2.1 x0 4) fun r52 =>
  if ((hd L51).2.1 r52).1 = 11 ∧ eix (4 : Int32) ((hd L51).2.1 r52).2 = true then
  eLet ((4, r52, 4, 0, (-1 : Int32)) :: L51) fun L53 =>
  if ((hd L53).2.1 x0).1 = 0 then
  eLet ((hd L53).2.2.2.1 x0 4) fun r54 =>
  if ((hd L53).2.1 r54).1 = 11 ∧ eix (5 : Int32) ((hd L53).2.1 r54).2 = true then
  eLet ((4, r54, 5, 0, (-1 : Int32)) :: L53) fun L55 =>
  if ((hd L55).2.1 x0).1 = 0 then
  eLet ((hd L55).2.2.2.1 x0 4) fun r56 =>
  if ((hd L55).2.1 r56).1 = 11 ∧ eix (6 : Int32) ((hd L55).2.1 r56).2 = true then
  eLet ((4, r56, 6, 0, (-1 : Int32)) :: L55) fun L57 =>
  if ((hd L57).2.1 x0).1 = 0 then
  eLet ((hd L57).2.2.2.1 x0 4) fun r58 =>
  if ((hd L57).2.1 r58).1 = 11 ∧ eix (7 : Int32) ((hd L57).2.1 r58).2 = true then
  eLet ((4, r58, 7, 0, (-1 : Int32)) :: L57) fun L59 =>
  if ((hd L59).2.1 x0).1 = 0 then
  eLet ((hd L59).2.2.2.1 x0 4) fun r60 =>
  if ((hd L59).2.1 r60).1 = 11 ∧ eix (8 : Int32) ((hd L59).2.1 r60).2 = true then
  eLet ((4, r60, 8, 0, (-1 : Int32)) :: L59) fun L61 =>
  if ((hd L61).2.1 x0).1 = 0 then
  eLet ((hd L61).2.2.2.1 x0 4) fun r62 =>
  if ((hd L61).2.1 r62).1 = 11 ∧ eix (9 : Int32) ((hd L61).2.1 r62).2 = true then
  eLet ((4, r62, 9, 0, (-1 : Int32)) :: L61) fun L63 =>
  if ((hd L63).2.1 x0).1 = 0 then
  eLet ((hd L63).2.2.2.1 x0 4) fun r64 =>
  if ((hd L63).2.1 r64).1 = 11 ∧ eix (10 : Int32) ((hd L63).2.1 r64).2 = true then
  eLet ((4, r64, 10, 0, (-1 : Int32)) :: L63) fun L65 =>
  if ((hd L65).2.1 x0).1 = 0 then
  eLet ((hd L65).2.2.2.1 x0 4) fun r66 =>
  if ((hd L65).2.1 r66).1 = 11 ∧ eix (11 : Int32) ((hd L65).2.1 r66).2 = true then
  eLet ((4, r66, 11, 0, (-1 : Int32)) :: L65) fun L67 =>
  if ((hd L67).2.1 x0).1 = 0 then
  eLet ((hd L67).2.2.2.1 x0 4) fun r68 =>
  if ((hd L67).2.1 r68).1 = 11 ∧ eix (12 : Int32) ((hd L67).2.1 r68).2 = true then
  eLet ((4, r68, 12, 0, (-1 : Int32)) :: L67) fun L69 =>
  if ((hd L69).2.1 x0).1 = 0 then
  eLet ((hd L69).2.2.2.1 x0 4) fun r70 =>
  if ((hd L69).2.1 r70).1 = 11 ∧ eix (13 : Int32) ((hd L69).2.1 r70).2 = true then
  eLet ((4, r70, 13, 0, (-1 : Int32)) :: L69) fun L71 =>
  if ((hd L71).2.1 x0).1 = 0 then
  eLet ((hd L71).2.2.2.1 x0 4) fun r72 =>
  if ((hd L71).2.1 r72).1 = 11 ∧ eix (14 : Int32) ((hd L71).2.1 r72).2 = true then
  eLet ((4, r72, 14, 0, (-1 : Int32)) :: L71) fun L73 =>
  if ((hd L73).2.1 x0).1 = 0 then
  eLet ((hd L73).2.2.2.1 x0 4) fun r74 =>
  if ((hd L73).2.1 r74).1 = 11 ∧ eix (15 : Int32) ((hd L73).2.1 r74).2 = true then
  eLet ((4, r74, 15, 0, (-1 : Int32)) :: L73) fun L75 =>
  some L75
  else none
  else none
  else none
  else none
  else none
  else none
  else none
  else none
  else none
  else none
  else none
  else none
  else none
  else none
  else none
  else none
  else none
  else none
  else none
  else none
  else none
  else none
  else none
  else none
  else none
  else none
  else none
  else none
  else none
  else none
  else none
  else none
  else none
  else none
  else none
  else none
  else none
  else none
  else none
  else none
  else none
  else none
  else none
  else none
  else none
  else none
  else none
  else none
  else none
  else none
  else none
  else none
  else none
  else none
  else none
  else none
  else none
  else none
set_option maxHeartbeats 4000000 in
set_option maxRecDepth 20000 in
theorem s_X0_init (x0 : Nat) (x1 : Int32) (x2 : Nat) (x3 : Nat) (L : List eOp) : ∀ L2, f_X0_init x0 x1 x2 x3 L = some L2 → Ew true 2 0 [.inr (.inr (x0)), .inl (x1), .inr (.inr (x2)), .inr (.inr (x3))] (hd L) (cI L2) := by
  refine T_meth (md := m_X0_init) (d0 := 1) (cv := cI) rfl (lb rfl) (lb rfl) ?_
  unfold f_X0_init
  show Snd true none _ _ _ _ (0, [(0, .inr (.inr (x0))), (1, .inl (x1)), (2, .inr (.inr (x2))), (3, .inr (.inr (x3)))], [], hd L, 0, 0)
  refine T_go (S' := (1, [(0, .inr (.inr (x0))), (1, .inl (x1)), (2, .inr (.inr (x2))), (3, .inr (.inr (x3)))], [.inr (.inr (x0))], hd L, 0, 0)) 1 rfl ?_
  refine TI_obj rfl (fun _ => ?_)
  show Snd true none _ _ _ _ (4, [(0, .inr (.inr (x0))), (1, .inl (x1)), (2, .inr (.inr (x2))), (3, .inr (.inr (x3)))], [], hd L, 0, 0)
  refine T_go (S' := (6, [(0, .inr (.inr (x0))), (1, .inl (x1)), (2, .inr (.inr (x2))), (3, .inr (.inr (x3)))], [.inl ((4 : Int32)), .inr (.inr (x0))], hd L, 0, 0)) 2 rfl ?_
  refine T_go (S' := (9, [(0, .inr (.inr (x0))), (1, .inl (x1)), (2, .inr (.inr (x2))), (3, .inr (.inr (x3)))], [.inr (.inr (((hd L).1))), .inr (.inr (x0))], hd ((2, 16, 4, 0, 0) :: L), 1, 4)) 1 rfl ?_
  refine T_let (Sf := fun L2 => (9, [(0, .inr (.inr (x0))), (1, .inl (x1)), (2, .inr (.inr (x2))), (3, .inr (.inr (x3)))], [.inr (.inr (((hd L).1))), .inr (.inr (x0))], hd L2, 1, 4)) (fun L2 => ?_)
  refine T_let (Sf := fun r1 => (9, [(0, .inr (.inr (x0))), (1, .inl (x1)), (2, .inr (.inr (x2))), (3, .inr (.inr (x3)))], [.inr (.inr (r1)), .inr (.inr (x0))], hd L2, 1, 4)) (fun r1 => ?_)
  refine TI_putR rfl (fun _ => ?_)
  refine T_let (Sf := fun L3 => (12, [(0, .inr (.inr (x0))), (1, .inl (x1)), (2, .inr (.inr (x2))), (3, .inr (.inr (x3)))], [], hd L3, 1, 4)) (fun L3 => ?_)
  refine T_go (S' := (15, [(0, .inr (.inr (x0))), (1, .inl (x1)), (2, .inr (.inr (x2))), (3, .inr (.inr (x3)))], [.inl ((16 : Int32)), .inr (.inr (x0))], hd L3, 1, 4)) 2 rfl ?_
  refine T_go (S' := (17, [(0, .inr (.inr (x0))), (1, .inl (x1)), (2, .inr (.inr (x2))), (3, .inr (.inr (x3)))], [.inr (.inr (((hd L3).1))), .inr (.inr (x0))], hd ((1, 11, 16, 0, 0) :: L3), 2, 20)) 1 rfl ?_
  refine T_let (Sf := fun L5 => (17, [(0, .inr (.inr (x0))), (1, .inl (x1)), (2, .inr (.inr (x2))), (3, .inr (.inr (x3)))], [.inr (.inr (((hd L3).1))), .inr (.inr (x0))], hd L5, 2, 20)) (fun L5 => ?_)
  refine T_let (Sf := fun r4 => (17, [(0, .inr (.inr (x0))), (1, .inl (x1)), (2, .inr (.inr (x2))), (3, .inr (.inr (x3)))], [.inr (.inr (r4)), .inr (.inr (x0))], hd L5, 2, 20)) (fun r4 => ?_)
  refine TI_putR rfl (fun _ => ?_)
  refine T_let (Sf := fun L6 => (20, [(0, .inr (.inr (x0))), (1, .inl (x1)), (2, .inr (.inr (x2))), (3, .inr (.inr (x3)))], [], hd L6, 2, 20)) (fun L6 => ?_)
  refine T_go (S' := (22, [(0, .inr (.inr (x0))), (1, .inl (x1)), (2, .inr (.inr (x2))), (3, .inr (.inr (x3)))], [.inl ((4 : Int32)), .inr (.inr (x0))], hd L6, 2, 20)) 2 rfl ?_
  refine T_go (S' := (24, [(0, .inr (.inr (x0))), (1, .inl (x1)), (2, .inr (.inr (x2))), (3, .inr (.inr (x3)))], [.inr (.inr (((hd L6).1))), .inr (.inr (x0))], hd ((1, 11, 4, 0, 0) :: L6), 3, 24)) 1 rfl ?_
  refine T_let (Sf := fun L8 => (24, [(0, .inr (.inr (x0))), (1, .inl (x1)), (2, .inr (.inr (x2))), (3, .inr (.inr (x3)))], [.inr (.inr (((hd L6).1))), .inr (.inr (x0))], hd L8, 3, 24)) (fun L8 => ?_)
  refine T_let (Sf := fun r7 => (24, [(0, .inr (.inr (x0))), (1, .inl (x1)), (2, .inr (.inr (x2))), (3, .inr (.inr (x3)))], [.inr (.inr (r7)), .inr (.inr (x0))], hd L8, 3, 24)) (fun r7 => ?_)
  refine TI_putR rfl (fun _ => ?_)
  refine T_let (Sf := fun L9 => (27, [(0, .inr (.inr (x0))), (1, .inl (x1)), (2, .inr (.inr (x2))), (3, .inr (.inr (x3)))], [], hd L9, 3, 24)) (fun L9 => ?_)
  refine T_go (S' := (29, [(0, .inr (.inr (x0))), (1, .inl (x1)), (2, .inr (.inr (x2))), (3, .inr (.inr (x3)))], [.inl ((4 : Int32)), .inr (.inr (x0))], hd L9, 3, 24)) 2 rfl ?_
  refine T_go (S' := (31, [(0, .inr (.inr (x0))), (1, .inl (x1)), (2, .inr (.inr (x2))), (3, .inr (.inr (x3)))], [.inr (.inr (((hd L9).1))), .inr (.inr (x0))], hd ((1, 11, 4, 0, 0) :: L9), 4, 28)) 1 rfl ?_
  refine T_let (Sf := fun L11 => (31, [(0, .inr (.inr (x0))), (1, .inl (x1)), (2, .inr (.inr (x2))), (3, .inr (.inr (x3)))], [.inr (.inr (((hd L9).1))), .inr (.inr (x0))], hd L11, 4, 28)) (fun L11 => ?_)
  refine T_let (Sf := fun r10 => (31, [(0, .inr (.inr (x0))), (1, .inl (x1)), (2, .inr (.inr (x2))), (3, .inr (.inr (x3)))], [.inr (.inr (r10)), .inr (.inr (x0))], hd L11, 4, 28)) (fun r10 => ?_)
  refine TI_putR rfl (fun _ => ?_)
  refine T_let (Sf := fun L12 => (34, [(0, .inr (.inr (x0))), (1, .inl (x1)), (2, .inr (.inr (x2))), (3, .inr (.inr (x3)))], [], hd L12, 4, 28)) (fun L12 => ?_)
  refine T_go (S' := (36, [(0, .inr (.inr (x0))), (1, .inl (x1)), (2, .inr (.inr (x2))), (3, .inr (.inr (x3)))], [.inl ((0 : Int32)), .inr (.inr (x0))], hd L12, 4, 28)) 2 rfl ?_
  refine TI_putI rfl (fun _ => ?_)
  refine T_let (Sf := fun L13 => (39, [(0, .inr (.inr (x0))), (1, .inl (x1)), (2, .inr (.inr (x2))), (3, .inr (.inr (x3)))], [], hd L13, 4, 28)) (fun L13 => ?_)
  refine T_go (S' := (40, [(0, .inr (.inr (x0))), (1, .inl (x1)), (2, .inr (.inr (x2))), (3, .inr (.inr (x3)))], [.inr (.inr (x0))], hd L13, 4, 28)) 1 rfl ?_
  refine T_go (S' := (43, [(0, .inr (.inr (x0))), (1, .inl (x1)), (2, .inr (.inr (x2))), (3, .inr (.inr (x3)))], [.inr (.inr (((hd L13).1))), .inr (.inr (x0))], hd ((0, 8, 0, 0, 0) :: L13), 5, 35)) 1 rfl ?_
  refine T_let (Sf := fun L15 => (43, [(0, .inr (.inr (x0))), (1, .inl (x1)), (2, .inr (.inr (x2))), (3, .inr (.inr (x3)))], [.inr (.inr (((hd L13).1))), .inr (.inr (x0))], hd L15, 5, 35)) (fun L15 => ?_)
  refine T_let (Sf := fun r14 => (43, [(0, .inr (.inr (x0))), (1, .inl (x1)), (2, .inr (.inr (x2))), (3, .inr (.inr (x3)))], [.inr (.inr (r14)), .inr (.inr (x0))], hd L15, 5, 35)) (fun r14 => ?_)
  refine T_go (S' := (44, [(0, .inr (.inr (x0))), (1, .inl (x1)), (2, .inr (.inr (x2))), (3, .inr (.inr (x3)))], [.inr (.inr (r14)), .inr (.inr (r14)), .inr (.inr (x0))], hd L15, 5, 35)) 1 rfl ?_
  refine TI_isp (as := [.inr (.inr (r14))]) (rest := [.inr (.inr (r14)), .inr (.inr (x0))]) (st := [.inr (.inr (r14)), .inr (.inr (r14)), .inr (.inr (x0))]) rfl rfl rfl ⟨lb rfl, lb rfl, lb rfl, lb rfl⟩ (fun _ h => Ew_le (lb rfl) (s_X10_init r14 L15 _ h)) (fun _ L16 => ?_)
  show Snd true none _ _ _ _ (47, [(0, .inr (.inr (x0))), (1, .inl (x1)), (2, .inr (.inr (x2))), (3, .inr (.inr (x3)))], [.inr (.inr (r14)), .inr (.inr (x0))], hd L16, 7, 67)
  refine TI_putR rfl (fun _ => ?_)
  refine T_let (Sf := fun L17 => (50, [(0, .inr (.inr (x0))), (1, .inl (x1)), (2, .inr (.inr (x2))), (3, .inr (.inr (x3)))], [], hd L17, 7, 67)) (fun L17 => ?_)
  refine T_go (S' := (52, [(0, .inr (.inr (x0))), (1, .inl (x1)), (2, .inr (.inr (x2))), (3, .inr (.inr (x3)))], [.inl ((0 : Int32)), .inr (.inr (x0))], hd L17, 7, 67)) 2 rfl ?_
  refine TI_putI rfl (fun _ => ?_)
  refine T_let (Sf := fun L18 => (55, [(0, .inr (.inr (x0))), (1, .inl (x1)), (2, .inr (.inr (x2))), (3, .inr (.inr (x3)))], [], hd L18, 7, 67)) (fun L18 => ?_)
  refine T_go (S' := (57, [(0, .inr (.inr (x0))), (1, .inl (x1)), (2, .inr (.inr (x2))), (3, .inr (.inr (x3)))], [.inl ((-1 : Int32)), .inr (.inr (x0))], hd L18, 7, 67)) 2 rfl ?_
  refine TI_putI rfl (fun _ => ?_)
  refine T_let (Sf := fun L19 => (60, [(0, .inr (.inr (x0))), (1, .inl (x1)), (2, .inr (.inr (x2))), (3, .inr (.inr (x3)))], [], hd L19, 7, 67)) (fun L19 => ?_)
  refine T_go (S' := (62, [(0, .inr (.inr (x0))), (1, .inl (x1)), (2, .inr (.inr (x2))), (3, .inr (.inr (x3)))], [.inl ((0 : Int32)), .inr (.inr (x0))], hd L19, 7, 67)) 2 rfl ?_
  refine TI_putI rfl (fun _ => ?_)
  refine T_let (Sf := fun L20 => (65, [(0, .inr (.inr (x0))), (1, .inl (x1)), (2, .inr (.inr (x2))), (3, .inr (.inr (x3)))], [], hd L20, 7, 67)) (fun L20 => ?_)
  refine T_go (S' := (67, [(0, .inr (.inr (x0))), (1, .inl (x1)), (2, .inr (.inr (x2))), (3, .inr (.inr (x3)))], [.inl (x1), .inr (.inr (x0))], hd L20, 7, 67)) 2 rfl ?_
  refine TI_putI rfl (fun _ => ?_)
  refine T_let (Sf := fun L21 => (70, [(0, .inr (.inr (x0))), (1, .inl (x1)), (2, .inr (.inr (x2))), (3, .inr (.inr (x3)))], [], hd L21, 7, 67)) (fun L21 => ?_)
  refine T_go (S' := (72, [(0, .inr (.inr (x0))), (1, .inl (x1)), (2, .inr (.inr (x2))), (3, .inr (.inr (x3)))], [.inr (.inr (x2)), .inr (.inr (x0))], hd L21, 7, 67)) 2 rfl ?_
  refine TI_putR rfl (fun _ => ?_)
  refine T_let (Sf := fun L22 => (75, [(0, .inr (.inr (x0))), (1, .inl (x1)), (2, .inr (.inr (x2))), (3, .inr (.inr (x3)))], [], hd L22, 7, 67)) (fun L22 => ?_)
  refine T_go (S' := (77, [(0, .inr (.inr (x0))), (1, .inl (x1)), (2, .inr (.inr (x2))), (3, .inr (.inr (x3)))], [.inr (.inr (x3)), .inr (.inr (x0))], hd L22, 7, 67)) 2 rfl ?_
  refine TI_putR rfl (fun _ => ?_)
  refine T_let (Sf := fun L23 => (80, [(0, .inr (.inr (x0))), (1, .inl (x1)), (2, .inr (.inr (x2))), (3, .inr (.inr (x3)))], [], hd L23, 7, 67)) (fun L23 => ?_)
  refine T_go (S' := (90, [(4, .inl ((0 : Int32))), (0, .inr (.inr (x0))), (1, .inl (x1)), (2, .inr (.inr (x2))), (3, .inr (.inr (x3)))], [.inr (.inr (x0))], hd L23, 7, 67)) 6 rfl ?_
  refine TI_getR rfl (fun _ => ?_)
  refine T_let (Sf := fun r24 => (93, [(4, .inl ((0 : Int32))), (0, .inr (.inr (x0))), (1, .inl (x1)), (2, .inr (.inr (x2))), (3, .inr (.inr (x3)))], [.inr (.inr (r24))], hd L23, 7, 67)) (fun r24 => ?_)
  refine T_go (S' := (95, [(4, .inl ((0 : Int32))), (0, .inr (.inr (x0))), (1, .inl (x1)), (2, .inr (.inr (x2))), (3, .inr (.inr (x3)))], [.inl ((0 : Int32)), .inr (.inr (r24))], hd L23, 7, 67)) 1 rfl ?_
  refine T_go (S' := (98, [(4, .inl ((0 : Int32))), (0, .inr (.inr (x0))), (1, .inl (x1)), (2, .inr (.inr (x2))), (3, .inr (.inr (x3)))], [.inr (.inr (((hd L23).1))), .inl ((0 : Int32)), .inr (.inr (r24))], hd ((0, 6, 0, 0, 0) :: L23), 8, 73)) 1 rfl ?_
  refine T_let (Sf := fun L26 => (98, [(4, .inl ((0 : Int32))), (0, .inr (.inr (x0))), (1, .inl (x1)), (2, .inr (.inr (x2))), (3, .inr (.inr (x3)))], [.inr (.inr (((hd L23).1))), .inl ((0 : Int32)), .inr (.inr (r24))], hd L26, 8, 73)) (fun L26 => ?_)
  refine T_let (Sf := fun r25 => (98, [(4, .inl ((0 : Int32))), (0, .inr (.inr (x0))), (1, .inl (x1)), (2, .inr (.inr (x2))), (3, .inr (.inr (x3)))], [.inr (.inr (r25)), .inl ((0 : Int32)), .inr (.inr (r24))], hd L26, 8, 73)) (fun r25 => ?_)
  refine T_go (S' := (99, [(4, .inl ((0 : Int32))), (0, .inr (.inr (x0))), (1, .inl (x1)), (2, .inr (.inr (x2))), (3, .inr (.inr (x3)))], [.inr (.inr (r25)), .inr (.inr (r25)), .inl ((0 : Int32)), .inr (.inr (r24))], hd L26, 8, 73)) 1 rfl ?_
  refine TI_isp (as := [.inr (.inr (r25))]) (rest := [.inr (.inr (r25)), .inl ((0 : Int32)), .inr (.inr (r24))]) (st := [.inr (.inr (r25)), .inr (.inr (r25)), .inl ((0 : Int32)), .inr (.inr (r24))]) rfl rfl rfl ⟨lb rfl, lb rfl, lb rfl, lb rfl⟩ (fun _ h => Ew_le (lb rfl) (s_X7_init r25 L26 _ h)) (fun _ L27 => ?_)
  show Snd true none _ _ _ _ (102, [(4, .inl ((0 : Int32))), (0, .inr (.inr (x0))), (1, .inl (x1)), (2, .inr (.inr (x2))), (3, .inr (.inr (x3)))], [.inr (.inr (r25)), .inl ((0 : Int32)), .inr (.inr (r24))], hd L27, 8, 73)
  refine TI_aast rfl (fun _ => ?_)
  refine T_let (Sf := fun L28 => (103, [(4, .inl ((0 : Int32))), (0, .inr (.inr (x0))), (1, .inl (x1)), (2, .inr (.inr (x2))), (3, .inr (.inr (x3)))], [], hd L28, 8, 73)) (fun L28 => ?_)
  refine T_go (S' := (90, [(4, .inl ((1 : Int32))), (0, .inr (.inr (x0))), (1, .inl (x1)), (2, .inr (.inr (x2))), (3, .inr (.inr (x3)))], [.inr (.inr (x0))], hd L28, 8, 73)) 6 rfl ?_
  refine TI_getR rfl (fun _ => ?_)
  refine T_let (Sf := fun r29 => (93, [(4, .inl ((1 : Int32))), (0, .inr (.inr (x0))), (1, .inl (x1)), (2, .inr (.inr (x2))), (3, .inr (.inr (x3)))], [.inr (.inr (r29))], hd L28, 8, 73)) (fun r29 => ?_)
  refine T_go (S' := (95, [(4, .inl ((1 : Int32))), (0, .inr (.inr (x0))), (1, .inl (x1)), (2, .inr (.inr (x2))), (3, .inr (.inr (x3)))], [.inl ((1 : Int32)), .inr (.inr (r29))], hd L28, 8, 73)) 1 rfl ?_
  refine T_go (S' := (98, [(4, .inl ((1 : Int32))), (0, .inr (.inr (x0))), (1, .inl (x1)), (2, .inr (.inr (x2))), (3, .inr (.inr (x3)))], [.inr (.inr (((hd L28).1))), .inl ((1 : Int32)), .inr (.inr (r29))], hd ((0, 6, 0, 0, 0) :: L28), 9, 79)) 1 rfl ?_
  refine T_let (Sf := fun L31 => (98, [(4, .inl ((1 : Int32))), (0, .inr (.inr (x0))), (1, .inl (x1)), (2, .inr (.inr (x2))), (3, .inr (.inr (x3)))], [.inr (.inr (((hd L28).1))), .inl ((1 : Int32)), .inr (.inr (r29))], hd L31, 9, 79)) (fun L31 => ?_)
  refine T_let (Sf := fun r30 => (98, [(4, .inl ((1 : Int32))), (0, .inr (.inr (x0))), (1, .inl (x1)), (2, .inr (.inr (x2))), (3, .inr (.inr (x3)))], [.inr (.inr (r30)), .inl ((1 : Int32)), .inr (.inr (r29))], hd L31, 9, 79)) (fun r30 => ?_)
  refine T_go (S' := (99, [(4, .inl ((1 : Int32))), (0, .inr (.inr (x0))), (1, .inl (x1)), (2, .inr (.inr (x2))), (3, .inr (.inr (x3)))], [.inr (.inr (r30)), .inr (.inr (r30)), .inl ((1 : Int32)), .inr (.inr (r29))], hd L31, 9, 79)) 1 rfl ?_
  refine TI_isp (as := [.inr (.inr (r30))]) (rest := [.inr (.inr (r30)), .inl ((1 : Int32)), .inr (.inr (r29))]) (st := [.inr (.inr (r30)), .inr (.inr (r30)), .inl ((1 : Int32)), .inr (.inr (r29))]) rfl rfl rfl ⟨lb rfl, lb rfl, lb rfl, lb rfl⟩ (fun _ h => Ew_le (lb rfl) (s_X7_init r30 L31 _ h)) (fun _ L32 => ?_)
  show Snd true none _ _ _ _ (102, [(4, .inl ((1 : Int32))), (0, .inr (.inr (x0))), (1, .inl (x1)), (2, .inr (.inr (x2))), (3, .inr (.inr (x3)))], [.inr (.inr (r30)), .inl ((1 : Int32)), .inr (.inr (r29))], hd L32, 9, 79)
  refine TI_aast rfl (fun _ => ?_)
  refine T_let (Sf := fun L33 => (103, [(4, .inl ((1 : Int32))), (0, .inr (.inr (x0))), (1, .inl (x1)), (2, .inr (.inr (x2))), (3, .inr (.inr (x3)))], [], hd L33, 9, 79)) (fun L33 => ?_)
  refine T_go (S' := (90, [(4, .inl ((2 : Int32))), (0, .inr (.inr (x0))), (1, .inl (x1)), (2, .inr (.inr (x2))), (3, .inr (.inr (x3)))], [.inr (.inr (x0))], hd L33, 9, 79)) 6 rfl ?_
  refine TI_getR rfl (fun _ => ?_)
  refine T_let (Sf := fun r34 => (93, [(4, .inl ((2 : Int32))), (0, .inr (.inr (x0))), (1, .inl (x1)), (2, .inr (.inr (x2))), (3, .inr (.inr (x3)))], [.inr (.inr (r34))], hd L33, 9, 79)) (fun r34 => ?_)
  refine T_go (S' := (95, [(4, .inl ((2 : Int32))), (0, .inr (.inr (x0))), (1, .inl (x1)), (2, .inr (.inr (x2))), (3, .inr (.inr (x3)))], [.inl ((2 : Int32)), .inr (.inr (r34))], hd L33, 9, 79)) 1 rfl ?_
  refine T_go (S' := (98, [(4, .inl ((2 : Int32))), (0, .inr (.inr (x0))), (1, .inl (x1)), (2, .inr (.inr (x2))), (3, .inr (.inr (x3)))], [.inr (.inr (((hd L33).1))), .inl ((2 : Int32)), .inr (.inr (r34))], hd ((0, 6, 0, 0, 0) :: L33), 10, 85)) 1 rfl ?_
  refine T_let (Sf := fun L36 => (98, [(4, .inl ((2 : Int32))), (0, .inr (.inr (x0))), (1, .inl (x1)), (2, .inr (.inr (x2))), (3, .inr (.inr (x3)))], [.inr (.inr (((hd L33).1))), .inl ((2 : Int32)), .inr (.inr (r34))], hd L36, 10, 85)) (fun L36 => ?_)
  refine T_let (Sf := fun r35 => (98, [(4, .inl ((2 : Int32))), (0, .inr (.inr (x0))), (1, .inl (x1)), (2, .inr (.inr (x2))), (3, .inr (.inr (x3)))], [.inr (.inr (r35)), .inl ((2 : Int32)), .inr (.inr (r34))], hd L36, 10, 85)) (fun r35 => ?_)
  refine T_go (S' := (99, [(4, .inl ((2 : Int32))), (0, .inr (.inr (x0))), (1, .inl (x1)), (2, .inr (.inr (x2))), (3, .inr (.inr (x3)))], [.inr (.inr (r35)), .inr (.inr (r35)), .inl ((2 : Int32)), .inr (.inr (r34))], hd L36, 10, 85)) 1 rfl ?_
  refine TI_isp (as := [.inr (.inr (r35))]) (rest := [.inr (.inr (r35)), .inl ((2 : Int32)), .inr (.inr (r34))]) (st := [.inr (.inr (r35)), .inr (.inr (r35)), .inl ((2 : Int32)), .inr (.inr (r34))]) rfl rfl rfl ⟨lb rfl, lb rfl, lb rfl, lb rfl⟩ (fun _ h => Ew_le (lb rfl) (s_X7_init r35 L36 _ h)) (fun _ L37 => ?_)
  show Snd true none _ _ _ _ (102, [(4, .inl ((2 : Int32))), (0, .inr (.inr (x0))), (1, .inl (x1)), (2, .inr (.inr (x2))), (3, .inr (.inr (x3)))], [.inr (.inr (r35)), .inl ((2 : Int32)), .inr (.inr (r34))], hd L37, 10, 85)
  refine TI_aast rfl (fun _ => ?_)
  refine T_let (Sf := fun L38 => (103, [(4, .inl ((2 : Int32))), (0, .inr (.inr (x0))), (1, .inl (x1)), (2, .inr (.inr (x2))), (3, .inr (.inr (x3)))], [], hd L38, 10, 85)) (fun L38 => ?_)
  refine T_go (S' := (90, [(4, .inl ((3 : Int32))), (0, .inr (.inr (x0))), (1, .inl (x1)), (2, .inr (.inr (x2))), (3, .inr (.inr (x3)))], [.inr (.inr (x0))], hd L38, 10, 85)) 6 rfl ?_
  refine TI_getR rfl (fun _ => ?_)
  refine T_let (Sf := fun r39 => (93, [(4, .inl ((3 : Int32))), (0, .inr (.inr (x0))), (1, .inl (x1)), (2, .inr (.inr (x2))), (3, .inr (.inr (x3)))], [.inr (.inr (r39))], hd L38, 10, 85)) (fun r39 => ?_)
  refine T_go (S' := (95, [(4, .inl ((3 : Int32))), (0, .inr (.inr (x0))), (1, .inl (x1)), (2, .inr (.inr (x2))), (3, .inr (.inr (x3)))], [.inl ((3 : Int32)), .inr (.inr (r39))], hd L38, 10, 85)) 1 rfl ?_
  refine T_go (S' := (98, [(4, .inl ((3 : Int32))), (0, .inr (.inr (x0))), (1, .inl (x1)), (2, .inr (.inr (x2))), (3, .inr (.inr (x3)))], [.inr (.inr (((hd L38).1))), .inl ((3 : Int32)), .inr (.inr (r39))], hd ((0, 6, 0, 0, 0) :: L38), 11, 91)) 1 rfl ?_
  refine T_let (Sf := fun L41 => (98, [(4, .inl ((3 : Int32))), (0, .inr (.inr (x0))), (1, .inl (x1)), (2, .inr (.inr (x2))), (3, .inr (.inr (x3)))], [.inr (.inr (((hd L38).1))), .inl ((3 : Int32)), .inr (.inr (r39))], hd L41, 11, 91)) (fun L41 => ?_)
  refine T_let (Sf := fun r40 => (98, [(4, .inl ((3 : Int32))), (0, .inr (.inr (x0))), (1, .inl (x1)), (2, .inr (.inr (x2))), (3, .inr (.inr (x3)))], [.inr (.inr (r40)), .inl ((3 : Int32)), .inr (.inr (r39))], hd L41, 11, 91)) (fun r40 => ?_)
  refine T_go (S' := (99, [(4, .inl ((3 : Int32))), (0, .inr (.inr (x0))), (1, .inl (x1)), (2, .inr (.inr (x2))), (3, .inr (.inr (x3)))], [.inr (.inr (r40)), .inr (.inr (r40)), .inl ((3 : Int32)), .inr (.inr (r39))], hd L41, 11, 91)) 1 rfl ?_
  refine TI_isp (as := [.inr (.inr (r40))]) (rest := [.inr (.inr (r40)), .inl ((3 : Int32)), .inr (.inr (r39))]) (st := [.inr (.inr (r40)), .inr (.inr (r40)), .inl ((3 : Int32)), .inr (.inr (r39))]) rfl rfl rfl ⟨lb rfl, lb rfl, lb rfl, lb rfl⟩ (fun _ h => Ew_le (lb rfl) (s_X7_init r40 L41 _ h)) (fun _ L42 => ?_)
  show Snd true none _ _ _ _ (102, [(4, .inl ((3 : Int32))), (0, .inr (.inr (x0))), (1, .inl (x1)), (2, .inr (.inr (x2))), (3, .inr (.inr (x3)))], [.inr (.inr (r40)), .inl ((3 : Int32)), .inr (.inr (r39))], hd L42, 11, 91)
  refine TI_aast rfl (fun _ => ?_)
  refine T_let (Sf := fun L43 => (103, [(4, .inl ((3 : Int32))), (0, .inr (.inr (x0))), (1, .inl (x1)), (2, .inr (.inr (x2))), (3, .inr (.inr (x3)))], [], hd L43, 11, 91)) (fun L43 => ?_)
  refine T_go (S' := (120, [(4, .inl ((0 : Int32))), (0, .inr (.inr (x0))), (1, .inl (x1)), (2, .inr (.inr (x2))), (3, .inr (.inr (x3)))], [.inr (.inr (x0))], hd L43, 11, 91)) 11 rfl ?_
  refine TI_getR rfl (fun _ => ?_)
  refine T_let (Sf := fun r44 => (123, [(4, .inl ((0 : Int32))), (0, .inr (.inr (x0))), (1, .inl (x1)), (2, .inr (.inr (x2))), (3, .inr (.inr (x3)))], [.inr (.inr (r44))], hd L43, 11, 91)) (fun r44 => ?_)
  refine T_go (S' := (126, [(4, .inl ((0 : Int32))), (0, .inr (.inr (x0))), (1, .inl (x1)), (2, .inr (.inr (x2))), (3, .inr (.inr (x3)))], [.inl ((-1 : Int32)), .inl ((0 : Int32)), .inr (.inr (r44))], hd L43, 11, 91)) 2 rfl ?_
  refine TI_iast rfl (fun _ => ?_)
  refine T_let (Sf := fun L45 => (127, [(4, .inl ((0 : Int32))), (0, .inr (.inr (x0))), (1, .inl (x1)), (2, .inr (.inr (x2))), (3, .inr (.inr (x3)))], [], hd L45, 11, 91)) (fun L45 => ?_)
  refine T_go (S' := (120, [(4, .inl ((1 : Int32))), (0, .inr (.inr (x0))), (1, .inl (x1)), (2, .inr (.inr (x2))), (3, .inr (.inr (x3)))], [.inr (.inr (x0))], hd L45, 11, 91)) 6 rfl ?_
  refine TI_getR rfl (fun _ => ?_)
  refine T_let (Sf := fun r46 => (123, [(4, .inl ((1 : Int32))), (0, .inr (.inr (x0))), (1, .inl (x1)), (2, .inr (.inr (x2))), (3, .inr (.inr (x3)))], [.inr (.inr (r46))], hd L45, 11, 91)) (fun r46 => ?_)
  refine T_go (S' := (126, [(4, .inl ((1 : Int32))), (0, .inr (.inr (x0))), (1, .inl (x1)), (2, .inr (.inr (x2))), (3, .inr (.inr (x3)))], [.inl ((-1 : Int32)), .inl ((1 : Int32)), .inr (.inr (r46))], hd L45, 11, 91)) 2 rfl ?_
  refine TI_iast rfl (fun _ => ?_)
  refine T_let (Sf := fun L47 => (127, [(4, .inl ((1 : Int32))), (0, .inr (.inr (x0))), (1, .inl (x1)), (2, .inr (.inr (x2))), (3, .inr (.inr (x3)))], [], hd L47, 11, 91)) (fun L47 => ?_)
  refine T_go (S' := (120, [(4, .inl ((2 : Int32))), (0, .inr (.inr (x0))), (1, .inl (x1)), (2, .inr (.inr (x2))), (3, .inr (.inr (x3)))], [.inr (.inr (x0))], hd L47, 11, 91)) 6 rfl ?_
  refine TI_getR rfl (fun _ => ?_)
  refine T_let (Sf := fun r48 => (123, [(4, .inl ((2 : Int32))), (0, .inr (.inr (x0))), (1, .inl (x1)), (2, .inr (.inr (x2))), (3, .inr (.inr (x3)))], [.inr (.inr (r48))], hd L47, 11, 91)) (fun r48 => ?_)
  refine T_go (S' := (126, [(4, .inl ((2 : Int32))), (0, .inr (.inr (x0))), (1, .inl (x1)), (2, .inr (.inr (x2))), (3, .inr (.inr (x3)))], [.inl ((-1 : Int32)), .inl ((2 : Int32)), .inr (.inr (r48))], hd L47, 11, 91)) 2 rfl ?_
  refine TI_iast rfl (fun _ => ?_)
  refine T_let (Sf := fun L49 => (127, [(4, .inl ((2 : Int32))), (0, .inr (.inr (x0))), (1, .inl (x1)), (2, .inr (.inr (x2))), (3, .inr (.inr (x3)))], [], hd L49, 11, 91)) (fun L49 => ?_)
  refine T_go (S' := (120, [(4, .inl ((3 : Int32))), (0, .inr (.inr (x0))), (1, .inl (x1)), (2, .inr (.inr (x2))), (3, .inr (.inr (x3)))], [.inr (.inr (x0))], hd L49, 11, 91)) 6 rfl ?_
  refine TI_getR rfl (fun _ => ?_)
  refine T_let (Sf := fun r50 => (123, [(4, .inl ((3 : Int32))), (0, .inr (.inr (x0))), (1, .inl (x1)), (2, .inr (.inr (x2))), (3, .inr (.inr (x3)))], [.inr (.inr (r50))], hd L49, 11, 91)) (fun r50 => ?_)
  refine T_go (S' := (126, [(4, .inl ((3 : Int32))), (0, .inr (.inr (x0))), (1, .inl (x1)), (2, .inr (.inr (x2))), (3, .inr (.inr (x3)))], [.inl ((-1 : Int32)), .inl ((3 : Int32)), .inr (.inr (r50))], hd L49, 11, 91)) 2 rfl ?_
  refine TI_iast rfl (fun _ => ?_)
  refine T_let (Sf := fun L51 => (127, [(4, .inl ((3 : Int32))), (0, .inr (.inr (x0))), (1, .inl (x1)), (2, .inr (.inr (x2))), (3, .inr (.inr (x3)))], [], hd L51, 11, 91)) (fun L51 => ?_)
  refine T_go (S' := (120, [(4, .inl ((4 : Int32))), (0, .inr (.inr (x0))), (1, .inl (x1)), (2, .inr (.inr (x2))), (3, .inr (.inr (x3)))], [.inr (.inr (x0))], hd L51, 11, 91)) 6 rfl ?_
  refine TI_getR rfl (fun _ => ?_)
  refine T_let (Sf := fun r52 => (123, [(4, .inl ((4 : Int32))), (0, .inr (.inr (x0))), (1, .inl (x1)), (2, .inr (.inr (x2))), (3, .inr (.inr (x3)))], [.inr (.inr (r52))], hd L51, 11, 91)) (fun r52 => ?_)
  refine T_go (S' := (126, [(4, .inl ((4 : Int32))), (0, .inr (.inr (x0))), (1, .inl (x1)), (2, .inr (.inr (x2))), (3, .inr (.inr (x3)))], [.inl ((-1 : Int32)), .inl ((4 : Int32)), .inr (.inr (r52))], hd L51, 11, 91)) 2 rfl ?_
  refine TI_iast rfl (fun _ => ?_)
  refine T_let (Sf := fun L53 => (127, [(4, .inl ((4 : Int32))), (0, .inr (.inr (x0))), (1, .inl (x1)), (2, .inr (.inr (x2))), (3, .inr (.inr (x3)))], [], hd L53, 11, 91)) (fun L53 => ?_)
  refine T_go (S' := (120, [(4, .inl ((5 : Int32))), (0, .inr (.inr (x0))), (1, .inl (x1)), (2, .inr (.inr (x2))), (3, .inr (.inr (x3)))], [.inr (.inr (x0))], hd L53, 11, 91)) 6 rfl ?_
  refine TI_getR rfl (fun _ => ?_)
  refine T_let (Sf := fun r54 => (123, [(4, .inl ((5 : Int32))), (0, .inr (.inr (x0))), (1, .inl (x1)), (2, .inr (.inr (x2))), (3, .inr (.inr (x3)))], [.inr (.inr (r54))], hd L53, 11, 91)) (fun r54 => ?_)
  refine T_go (S' := (126, [(4, .inl ((5 : Int32))), (0, .inr (.inr (x0))), (1, .inl (x1)), (2, .inr (.inr (x2))), (3, .inr (.inr (x3)))], [.inl ((-1 : Int32)), .inl ((5 : Int32)), .inr (.inr (r54))], hd L53, 11, 91)) 2 rfl ?_
  refine TI_iast rfl (fun _ => ?_)
  refine T_let (Sf := fun L55 => (127, [(4, .inl ((5 : Int32))), (0, .inr (.inr (x0))), (1, .inl (x1)), (2, .inr (.inr (x2))), (3, .inr (.inr (x3)))], [], hd L55, 11, 91)) (fun L55 => ?_)
  refine T_go (S' := (120, [(4, .inl ((6 : Int32))), (0, .inr (.inr (x0))), (1, .inl (x1)), (2, .inr (.inr (x2))), (3, .inr (.inr (x3)))], [.inr (.inr (x0))], hd L55, 11, 91)) 6 rfl ?_
  refine TI_getR rfl (fun _ => ?_)
  refine T_let (Sf := fun r56 => (123, [(4, .inl ((6 : Int32))), (0, .inr (.inr (x0))), (1, .inl (x1)), (2, .inr (.inr (x2))), (3, .inr (.inr (x3)))], [.inr (.inr (r56))], hd L55, 11, 91)) (fun r56 => ?_)
  refine T_go (S' := (126, [(4, .inl ((6 : Int32))), (0, .inr (.inr (x0))), (1, .inl (x1)), (2, .inr (.inr (x2))), (3, .inr (.inr (x3)))], [.inl ((-1 : Int32)), .inl ((6 : Int32)), .inr (.inr (r56))], hd L55, 11, 91)) 2 rfl ?_
  refine TI_iast rfl (fun _ => ?_)
  refine T_let (Sf := fun L57 => (127, [(4, .inl ((6 : Int32))), (0, .inr (.inr (x0))), (1, .inl (x1)), (2, .inr (.inr (x2))), (3, .inr (.inr (x3)))], [], hd L57, 11, 91)) (fun L57 => ?_)
  refine T_go (S' := (120, [(4, .inl ((7 : Int32))), (0, .inr (.inr (x0))), (1, .inl (x1)), (2, .inr (.inr (x2))), (3, .inr (.inr (x3)))], [.inr (.inr (x0))], hd L57, 11, 91)) 6 rfl ?_
  refine TI_getR rfl (fun _ => ?_)
  refine T_let (Sf := fun r58 => (123, [(4, .inl ((7 : Int32))), (0, .inr (.inr (x0))), (1, .inl (x1)), (2, .inr (.inr (x2))), (3, .inr (.inr (x3)))], [.inr (.inr (r58))], hd L57, 11, 91)) (fun r58 => ?_)
  refine T_go (S' := (126, [(4, .inl ((7 : Int32))), (0, .inr (.inr (x0))), (1, .inl (x1)), (2, .inr (.inr (x2))), (3, .inr (.inr (x3)))], [.inl ((-1 : Int32)), .inl ((7 : Int32)), .inr (.inr (r58))], hd L57, 11, 91)) 2 rfl ?_
  refine TI_iast rfl (fun _ => ?_)
  refine T_let (Sf := fun L59 => (127, [(4, .inl ((7 : Int32))), (0, .inr (.inr (x0))), (1, .inl (x1)), (2, .inr (.inr (x2))), (3, .inr (.inr (x3)))], [], hd L59, 11, 91)) (fun L59 => ?_)
  refine T_go (S' := (120, [(4, .inl ((8 : Int32))), (0, .inr (.inr (x0))), (1, .inl (x1)), (2, .inr (.inr (x2))), (3, .inr (.inr (x3)))], [.inr (.inr (x0))], hd L59, 11, 91)) 6 rfl ?_
  refine TI_getR rfl (fun _ => ?_)
  refine T_let (Sf := fun r60 => (123, [(4, .inl ((8 : Int32))), (0, .inr (.inr (x0))), (1, .inl (x1)), (2, .inr (.inr (x2))), (3, .inr (.inr (x3)))], [.inr (.inr (r60))], hd L59, 11, 91)) (fun r60 => ?_)
  refine T_go (S' := (126, [(4, .inl ((8 : Int32))), (0, .inr (.inr (x0))), (1, .inl (x1)), (2, .inr (.inr (x2))), (3, .inr (.inr (x3)))], [.inl ((-1 : Int32)), .inl ((8 : Int32)), .inr (.inr (r60))], hd L59, 11, 91)) 2 rfl ?_
  refine TI_iast rfl (fun _ => ?_)
  refine T_let (Sf := fun L61 => (127, [(4, .inl ((8 : Int32))), (0, .inr (.inr (x0))), (1, .inl (x1)), (2, .inr (.inr (x2))), (3, .inr (.inr (x3)))], [], hd L61, 11, 91)) (fun L61 => ?_)
  refine T_go (S' := (120, [(4, .inl ((9 : Int32))), (0, .inr (.inr (x0))), (1, .inl (x1)), (2, .inr (.inr (x2))), (3, .inr (.inr (x3)))], [.inr (.inr (x0))], hd L61, 11, 91)) 6 rfl ?_
  refine TI_getR rfl (fun _ => ?_)
  refine T_let (Sf := fun r62 => (123, [(4, .inl ((9 : Int32))), (0, .inr (.inr (x0))), (1, .inl (x1)), (2, .inr (.inr (x2))), (3, .inr (.inr (x3)))], [.inr (.inr (r62))], hd L61, 11, 91)) (fun r62 => ?_)
  refine T_go (S' := (126, [(4, .inl ((9 : Int32))), (0, .inr (.inr (x0))), (1, .inl (x1)), (2, .inr (.inr (x2))), (3, .inr (.inr (x3)))], [.inl ((-1 : Int32)), .inl ((9 : Int32)), .inr (.inr (r62))], hd L61, 11, 91)) 2 rfl ?_
  refine TI_iast rfl (fun _ => ?_)
  refine T_let (Sf := fun L63 => (127, [(4, .inl ((9 : Int32))), (0, .inr (.inr (x0))), (1, .inl (x1)), (2, .inr (.inr (x2))), (3, .inr (.inr (x3)))], [], hd L63, 11, 91)) (fun L63 => ?_)
  refine T_go (S' := (120, [(4, .inl ((10 : Int32))), (0, .inr (.inr (x0))), (1, .inl (x1)), (2, .inr (.inr (x2))), (3, .inr (.inr (x3)))], [.inr (.inr (x0))], hd L63, 11, 91)) 6 rfl ?_
  refine TI_getR rfl (fun _ => ?_)
  refine T_let (Sf := fun r64 => (123, [(4, .inl ((10 : Int32))), (0, .inr (.inr (x0))), (1, .inl (x1)), (2, .inr (.inr (x2))), (3, .inr (.inr (x3)))], [.inr (.inr (r64))], hd L63, 11, 91)) (fun r64 => ?_)
  refine T_go (S' := (126, [(4, .inl ((10 : Int32))), (0, .inr (.inr (x0))), (1, .inl (x1)), (2, .inr (.inr (x2))), (3, .inr (.inr (x3)))], [.inl ((-1 : Int32)), .inl ((10 : Int32)), .inr (.inr (r64))], hd L63, 11, 91)) 2 rfl ?_
  refine TI_iast rfl (fun _ => ?_)
  refine T_let (Sf := fun L65 => (127, [(4, .inl ((10 : Int32))), (0, .inr (.inr (x0))), (1, .inl (x1)), (2, .inr (.inr (x2))), (3, .inr (.inr (x3)))], [], hd L65, 11, 91)) (fun L65 => ?_)
  refine T_go (S' := (120, [(4, .inl ((11 : Int32))), (0, .inr (.inr (x0))), (1, .inl (x1)), (2, .inr (.inr (x2))), (3, .inr (.inr (x3)))], [.inr (.inr (x0))], hd L65, 11, 91)) 6 rfl ?_
  refine TI_getR rfl (fun _ => ?_)
  refine T_let (Sf := fun r66 => (123, [(4, .inl ((11 : Int32))), (0, .inr (.inr (x0))), (1, .inl (x1)), (2, .inr (.inr (x2))), (3, .inr (.inr (x3)))], [.inr (.inr (r66))], hd L65, 11, 91)) (fun r66 => ?_)
  refine T_go (S' := (126, [(4, .inl ((11 : Int32))), (0, .inr (.inr (x0))), (1, .inl (x1)), (2, .inr (.inr (x2))), (3, .inr (.inr (x3)))], [.inl ((-1 : Int32)), .inl ((11 : Int32)), .inr (.inr (r66))], hd L65, 11, 91)) 2 rfl ?_
  refine TI_iast rfl (fun _ => ?_)
  refine T_let (Sf := fun L67 => (127, [(4, .inl ((11 : Int32))), (0, .inr (.inr (x0))), (1, .inl (x1)), (2, .inr (.inr (x2))), (3, .inr (.inr (x3)))], [], hd L67, 11, 91)) (fun L67 => ?_)
  refine T_go (S' := (120, [(4, .inl ((12 : Int32))), (0, .inr (.inr (x0))), (1, .inl (x1)), (2, .inr (.inr (x2))), (3, .inr (.inr (x3)))], [.inr (.inr (x0))], hd L67, 11, 91)) 6 rfl ?_
  refine TI_getR rfl (fun _ => ?_)
  refine T_let (Sf := fun r68 => (123, [(4, .inl ((12 : Int32))), (0, .inr (.inr (x0))), (1, .inl (x1)), (2, .inr (.inr (x2))), (3, .inr (.inr (x3)))], [.inr (.inr (r68))], hd L67, 11, 91)) (fun r68 => ?_)
  refine T_go (S' := (126, [(4, .inl ((12 : Int32))), (0, .inr (.inr (x0))), (1, .inl (x1)), (2, .inr (.inr (x2))), (3, .inr (.inr (x3)))], [.inl ((-1 : Int32)), .inl ((12 : Int32)), .inr (.inr (r68))], hd L67, 11, 91)) 2 rfl ?_
  refine TI_iast rfl (fun _ => ?_)
  refine T_let (Sf := fun L69 => (127, [(4, .inl ((12 : Int32))), (0, .inr (.inr (x0))), (1, .inl (x1)), (2, .inr (.inr (x2))), (3, .inr (.inr (x3)))], [], hd L69, 11, 91)) (fun L69 => ?_)
  refine T_go (S' := (120, [(4, .inl ((13 : Int32))), (0, .inr (.inr (x0))), (1, .inl (x1)), (2, .inr (.inr (x2))), (3, .inr (.inr (x3)))], [.inr (.inr (x0))], hd L69, 11, 91)) 6 rfl ?_
  refine TI_getR rfl (fun _ => ?_)
  refine T_let (Sf := fun r70 => (123, [(4, .inl ((13 : Int32))), (0, .inr (.inr (x0))), (1, .inl (x1)), (2, .inr (.inr (x2))), (3, .inr (.inr (x3)))], [.inr (.inr (r70))], hd L69, 11, 91)) (fun r70 => ?_)
  refine T_go (S' := (126, [(4, .inl ((13 : Int32))), (0, .inr (.inr (x0))), (1, .inl (x1)), (2, .inr (.inr (x2))), (3, .inr (.inr (x3)))], [.inl ((-1 : Int32)), .inl ((13 : Int32)), .inr (.inr (r70))], hd L69, 11, 91)) 2 rfl ?_
  refine TI_iast rfl (fun _ => ?_)
  refine T_let (Sf := fun L71 => (127, [(4, .inl ((13 : Int32))), (0, .inr (.inr (x0))), (1, .inl (x1)), (2, .inr (.inr (x2))), (3, .inr (.inr (x3)))], [], hd L71, 11, 91)) (fun L71 => ?_)
  refine T_go (S' := (120, [(4, .inl ((14 : Int32))), (0, .inr (.inr (x0))), (1, .inl (x1)), (2, .inr (.inr (x2))), (3, .inr (.inr (x3)))], [.inr (.inr (x0))], hd L71, 11, 91)) 6 rfl ?_
  refine TI_getR rfl (fun _ => ?_)
  refine T_let (Sf := fun r72 => (123, [(4, .inl ((14 : Int32))), (0, .inr (.inr (x0))), (1, .inl (x1)), (2, .inr (.inr (x2))), (3, .inr (.inr (x3)))], [.inr (.inr (r72))], hd L71, 11, 91)) (fun r72 => ?_)
  refine T_go (S' := (126, [(4, .inl ((14 : Int32))), (0, .inr (.inr (x0))), (1, .inl (x1)), (2, .inr (.inr (x2))), (3, .inr (.inr (x3)))], [.inl ((-1 : Int32)), .inl ((14 : Int32)), .inr (.inr (r72))], hd L71, 11, 91)) 2 rfl ?_
  refine TI_iast rfl (fun _ => ?_)
  refine T_let (Sf := fun L73 => (127, [(4, .inl ((14 : Int32))), (0, .inr (.inr (x0))), (1, .inl (x1)), (2, .inr (.inr (x2))), (3, .inr (.inr (x3)))], [], hd L73, 11, 91)) (fun L73 => ?_)
  refine T_go (S' := (120, [(4, .inl ((15 : Int32))), (0, .inr (.inr (x0))), (1, .inl (x1)), (2, .inr (.inr (x2))), (3, .inr (.inr (x3)))], [.inr (.inr (x0))], hd L73, 11, 91)) 6 rfl ?_
  refine TI_getR rfl (fun _ => ?_)
  refine T_let (Sf := fun r74 => (123, [(4, .inl ((15 : Int32))), (0, .inr (.inr (x0))), (1, .inl (x1)), (2, .inr (.inr (x2))), (3, .inr (.inr (x3)))], [.inr (.inr (r74))], hd L73, 11, 91)) (fun r74 => ?_)
  refine T_go (S' := (126, [(4, .inl ((15 : Int32))), (0, .inr (.inr (x0))), (1, .inl (x1)), (2, .inr (.inr (x2))), (3, .inr (.inr (x3)))], [.inl ((-1 : Int32)), .inl ((15 : Int32)), .inr (.inr (r74))], hd L73, 11, 91)) 2 rfl ?_
  refine TI_iast rfl (fun _ => ?_)
  refine T_let (Sf := fun L75 => (127, [(4, .inl ((15 : Int32))), (0, .inr (.inr (x0))), (1, .inl (x1)), (2, .inr (.inr (x2))), (3, .inr (.inr (x3)))], [], hd L75, 11, 91)) (fun L75 => ?_)
  refine T_go (S' := (133, [(4, .inl ((16 : Int32))), (0, .inr (.inr (x0))), (1, .inl (x1)), (2, .inr (.inr (x2))), (3, .inr (.inr (x3)))], [], hd L75, 11, 91)) 5 rfl ?_
  exact T_ret rfl
