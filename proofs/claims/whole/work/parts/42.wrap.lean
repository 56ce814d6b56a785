/-! the calls whose exceptions are caught -/
def eTry {τ ρ : Type} (G : Option ((Nat ⊕ τ) × eMem)) (H : Nat → eMem → Option ρ) (K : τ → eMem → Option ρ) : Option ρ := match G with
  | none => none
  | some (.inl E, σ) => H E σ
  | some (.inr v, σ) => K v σ
def SndH {ρ : Type} (d : Nat) (md : eM) (pc : Nat) (ls : eL) (c z E : Nat) (X : Option ρ) (cv : ρ → eR) (σ : eMem) : Prop := ∀ r, X = some r → ∃ hpc w, ehand md.2.2.2.2.2.1 pc E = some hpc ∧ ecatch md hpc ls = some w ∧ Es false none d md (w.1, w.2, [], hp σ, c, z) (cv r)
section ERH
variable {md : eM} {ρ τ : Type} {d pc : Nat} {ls : eL} {σ : eMem} {c z E : Nat} {X Y : Option ρ} {cv : ρ → eR}
theorem T_hnil : SndH d md pc ls c z E (none : Option ρ) cv σ := fun r hr => nomatch hr
theorem T_hcons {E0 hpc : Nat} {w : Nat × eL} (h1 : ehand md.2.2.2.2.2.1 pc E0 = some hpc) (h2 : ecatch md hpc ls = some w) (h3 : Snd false none d md X cv (w.1, w.2, [], hp σ, c, z)) (h4 : SndH d md pc ls c z E Y cv σ) : SndH d md pc ls c z E (if E = E0 then X else Y) cv σ := by
  by_cases q : E = E0
  · rw [if_pos q]
    subst q
    exact fun r hr => ⟨hpc, w, h1, h2, h3 r hr⟩
  · rw [if_neg q]
    exact h4
theorem T_callh {P : Prop} {_ : Decidable P} {S : eS} {y : Nat} {as rest : List eV} {h : eH} {w : Nat} {i : τ → Option eV} {G : Option ((Nat ⊕ τ) × eMem)} {H : Nat → eMem → Option ρ} {K : τ → eMem → Option ρ} (hs : stp false none md S = (if P then .inr (.inr (.inl (y, as, h, pc, ls, rest, c, z, w))) else estk))
    (hg : ∀ r, G = some r → Ew false d y as h (cX i r)) (hE : P → ∀ E σ2, SndH d md pc ls c z E (H E σ2) cv σ2) (hk : P → ∀ v σ2, Snd false none d md (K v σ2) cv (pc + 3, ls, (i v).toList ++ rest, hp σ2, c, z)) : Snd false none d md (if P then eTry G H K else none) cv S := by
  by_cases q : P
  · rw [if_pos q] at hs ⊢
    intro r hr
    rcases hG : G with _ | ⟨E | v, σ⟩
    · rw [hG] at hr
      cases hr
    · rw [hG] at hr
      obtain ⟨hpc, w, g1, g2, n, hn⟩ := hE q E σ r hr
      refine ⟨n + 1, ?_⟩
      unfold EwN
      refine Or.inr ?_
      rw [hs]
      refine ⟨_, hg _ hG, ?_⟩
      unfold cX
      dsimp only
      rw [g1]
      dsimp only
      rw [g2]
      exact hn
    · rw [hG] at hr
      obtain ⟨n, hn⟩ := hk q v σ r hr
      refine ⟨n + 1, ?_⟩
      unfold EwN
      refine Or.inr ?_
      rw [hs]
      exact ⟨_, hg _ hG, hn⟩
  · rw [if_neg q]
    exact T_none
theorem T_cvh {oc maxL rt mc ms : Nat} {hs : List (Nat × Nat × Nat × Nat)} {cd : eC} {idx a2 a4 : Nat} {i : τ → Option eV} {y n f g r : Nat} {st as rest : List eV} {G : Option ((Nat ⊕ τ) × eMem)} {H : Nat → eMem → Option ρ} {K : τ → eMem → Option ρ} (hel : elk cd pc = some (.invokevirtual idx, y, a2, n, a4, f, g)) (hr : st.drop n = .inr (.inr r) :: rest) (has : (st.take (n + 1)).reverse = as) (hc : c + f ≤ mc ∧ z + g ≤ ms ∧ ecats rest ≤ 8 ∧ n + 1 ≤ st.length) (hg : ∀ r2, G = some r2 → Ew false d y as (hp σ) (cX i r2)) (hE : (KH r).1 = a4 → ∀ E σ2, SndH d (oc, maxL, rt, mc, ms, hs, cd) pc ls (c + f) (z + g) E (H E σ2) cv σ2) (hk : (KH r).1 = a4 → ∀ v σ2, Snd false none d (oc, maxL, rt, mc, ms, hs, cd) (K v σ2) cv (pc + 3, ls, (i v).toList ++ rest, hp σ2, c + f, z + g)) : Snd false none d (oc, maxL, rt, mc, ms, hs, cd) (if (KH r).1 = a4 then eTry G H K else none) cv (pc, ls, st, hp σ, c, z) := by
  refine T_callh (as := as) (rest := rest) (c := c + f) (z := z + g) (w := 0) (i := i) ?_ hg hE hk
  unfold stp
  dsimp only
  rw [hel]
  show (match st.drop n with | .inr (.inr r) :: _ => (if (KH r).1 = a4 then ecall mc ms y (n + 1) f g pc ls st (hp σ) c z else estk) | _ => estk) = _
  rw [hr]
  dsimp only
  unfold ecall
  have hd : st.drop (n + 1) = rest := by rw [← List.tail_drop, hr]; rfl
  rw [hd, has, if_pos hc]
end ERH
def f_L_load (x0 : Nat) (x1 : Int32) (x2 : Int32) (x3 : Nat) (σ : eMem) : Option (Int32 × eMem) :=
  if (KH x0).1 = 9 then eTry (f_X11_load x0 x1 x2 σ) (fun E σ3 =>
    if E = 0 then
      some ((1 : Int32), σ3)
    else
    if E = 2 then
      some ((2 : Int32), σ3)
    else
    none
    ) (fun v1 σ2 =>
    if (KH x3).1 = 12 ∧ eix (0 : Int32) (KH x3).2 = true then eLet ((σ2.1, eup σ2.2 x3 (0 : Int32).toNatClampNeg v1.toInt64) : eMem) (fun σ4 =>
      some ((0 : Int32), σ4)
      ) else none
    ) else none
set_option maxHeartbeats 4000000 in
set_option maxRecDepth 20000 in
theorem s_L_load (x0 : Nat) (x1 : Int32) (x2 : Int32) (x3 : Nat) (σ : eMem) : ∀ r, f_L_load x0 x1 x2 x3 σ = some r → Ew false 8 206 [.inr (.inr (x0)), .inl (x1), .inl (x2), .inr (.inr (x3))] (hp σ) (cN iI r) := by
  refine T_meth (md := m_L_load) (d0 := 7) (cv := (cN iI)) rfl (lb rfl) (lb rfl) ?_
  unfold f_L_load
  show Snd false none _ _ _ _ (0, [(0, .inr (.inr (x0))), (1, .inl (x1)), (2, .inl (x2)), (3, .inr (.inr (x3)))], [], hp σ, 0, 0)
  refine T_go (S' := (5, [(0, .inr (.inr (x0))), (1, .inl (x1)), (2, .inl (x2)), (3, .inr (.inr (x3)))], [.inl (x2), .inl (x1), .inr (.inr (x0)), .inl ((0 : Int32)), .inr (.inr (x3))], hp σ, 0, 0)) 5 rfl ?_
  refine T_cvh (i := iI) (as := [.inr (.inr (x0)), .inl (x1), .inl (x2)]) (rest := [.inl ((0 : Int32)), .inr (.inr (x3))]) (st := [.inl (x2), .inl (x1), .inr (.inr (x0)), .inl ((0 : Int32)), .inr (.inr (x3))]) rfl rfl rfl ⟨lb rfl, lb rfl, lb rfl, lb rfl⟩ (fun _ h => Ew_le (lb rfl) (s_X11_load x0 x1 x2 σ _ h)) (fun _ E σ3 => ?_) (fun _ v1 σ2 => ?_)
  · show SndH _ _ 5 [(0, .inr (.inr (x0))), (1, .inl (x1)), (2, .inl (x2)), (3, .inr (.inr (x3)))] 3 18 E _ _ σ3
    refine T_hcons (hpc := 13) rfl rfl ?_ ?_
    · refine T_go (S' := (16, [(0, .inr (.inr (x0))), (1, .inl (x1)), (2, .inl (x2)), (3, .inr (.inr (x3)))], [.inl ((1 : Int32))], hp σ3, 3, 18)) 1 rfl ?_
      exact T_ret rfl
    refine T_hcons (hpc := 17) rfl rfl ?_ ?_
    · refine T_go (S' := (20, [(0, .inr (.inr (x0))), (1, .inl (x1)), (2, .inl (x2)), (3, .inr (.inr (x3)))], [.inl ((2 : Int32))], hp σ3, 3, 18)) 1 rfl ?_
      exact T_ret rfl
    exact T_hnil
  · show Snd false none _ _ _ (cN iI) (8, [(0, .inr (.inr (x0))), (1, .inl (x1)), (2, .inl (x2)), (3, .inr (.inr (x3)))], [.inl (v1), .inl ((0 : Int32)), .inr (.inr (x3))], hp σ2, 3, 18)
    refine T_go (S' := (9, [(0, .inr (.inr (x0))), (1, .inl (x1)), (2, .inl (x2)), (3, .inr (.inr (x3)))], [.inr (.inl (v1.toInt64)), .inl ((0 : Int32)), .inr (.inr (x3))], hp σ2, 3, 18)) 1 rfl ?_
    refine T_last rfl (fun _ => ?_)
    refine T_let (Sf := fun σ4 => (10, [(0, .inr (.inr (x0))), (1, .inl (x1)), (2, .inl (x2)), (3, .inr (.inr (x3)))], [], hp σ4, 3, 18)) (fun σ4 => ?_)
    refine T_go (S' := (22, [(0, .inr (.inr (x0))), (1, .inl (x1)), (2, .inl (x2)), (3, .inr (.inr (x3)))], [.inl ((0 : Int32))], hp σ4, 3, 18)) 2 rfl ?_
    exact T_ret rfl
def f_L_store (x0 : Nat) (x1 : Int32) (x2 : Int32) (x3 : Int32) (x4 : Nat) (σ : eMem) : Option (Int32 × eMem) :=
  if (KH x0).1 = 9 then eTry (f_X11_store x0 x1 x2 x3 σ) (fun E σ3 =>
    if E = 0 then
      some ((1 : Int32), σ3)
    else
    if E = 1 then
      some ((2 : Int32), σ3)
    else
    if E = 2 then
      some ((3 : Int32), σ3)
    else
    none
    ) (fun v1 σ2 =>
    if (KH x4).1 = 12 ∧ eix (0 : Int32) (KH x4).2 = true then eLet ((σ2.1, eup σ2.2 x4 (0 : Int32).toNatClampNeg v1.toInt64) : eMem) (fun σ4 =>
      some ((0 : Int32), σ4)
      ) else none
    ) else none
set_option maxHeartbeats 4000000 in
set_option maxRecDepth 20000 in
theorem s_L_store (x0 : Nat) (x1 : Int32) (x2 : Int32) (x3 : Int32) (x4 : Nat) (σ : eMem) : ∀ r, f_L_store x0 x1 x2 x3 x4 σ = some r → Ew false 5 207 [.inr (.inr (x0)), .inl (x1), .inl (x2), .inl (x3), .inr (.inr (x4))] (hp σ) (cN iI r) := by
  refine T_meth (md := m_L_store) (d0 := 4) (cv := (cN iI)) rfl (lb rfl) (lb rfl) ?_
  unfold f_L_store
  show Snd false none _ _ _ _ (0, [(0, .inr (.inr (x0))), (1, .inl (x1)), (2, .inl (x2)), (3, .inl (x3)), (4, .inr (.inr (x4)))], [], hp σ, 0, 0)
  refine T_go (S' := (7, [(0, .inr (.inr (x0))), (1, .inl (x1)), (2, .inl (x2)), (3, .inl (x3)), (4, .inr (.inr (x4)))], [.inl (x3), .inl (x2), .inl (x1), .inr (.inr (x0)), .inl ((0 : Int32)), .inr (.inr (x4))], hp σ, 0, 0)) 6 rfl ?_
  refine T_cvh (i := iI) (as := [.inr (.inr (x0)), .inl (x1), .inl (x2), .inl (x3)]) (rest := [.inl ((0 : Int32)), .inr (.inr (x4))]) (st := [.inl (x3), .inl (x2), .inl (x1), .inr (.inr (x0)), .inl ((0 : Int32)), .inr (.inr (x4))]) rfl rfl rfl ⟨lb rfl, lb rfl, lb rfl, lb rfl⟩ (fun _ h => Ew_le (lb rfl) (s_X11_store x0 x1 x2 x3 σ _ h)) (fun _ E σ3 => ?_) (fun _ v1 σ2 => ?_)
  · show SndH _ _ 7 [(0, .inr (.inr (x0))), (1, .inl (x1)), (2, .inl (x2)), (3, .inl (x3)), (4, .inr (.inr (x4)))] 4 24 E _ _ σ3
    refine T_hcons (hpc := 15) rfl rfl ?_ ?_
    · refine T_go (S' := (18, [(0, .inr (.inr (x0))), (1, .inl (x1)), (2, .inl (x2)), (3, .inl (x3)), (4, .inr (.inr (x4)))], [.inl ((1 : Int32))], hp σ3, 4, 24)) 1 rfl ?_
      exact T_ret rfl
    refine T_hcons (hpc := 19) rfl rfl ?_ ?_
    · refine T_go (S' := (22, [(0, .inr (.inr (x0))), (1, .inl (x1)), (2, .inl (x2)), (3, .inl (x3)), (4, .inr (.inr (x4)))], [.inl ((2 : Int32))], hp σ3, 4, 24)) 1 rfl ?_
      exact T_ret rfl
    refine T_hcons (hpc := 23) rfl rfl ?_ ?_
    · refine T_go (S' := (26, [(0, .inr (.inr (x0))), (1, .inl (x1)), (2, .inl (x2)), (3, .inl (x3)), (4, .inr (.inr (x4)))], [.inl ((3 : Int32))], hp σ3, 4, 24)) 1 rfl ?_
      exact T_ret rfl
    exact T_hnil
  · show Snd false none _ _ _ (cN iI) (10, [(0, .inr (.inr (x0))), (1, .inl (x1)), (2, .inl (x2)), (3, .inl (x3)), (4, .inr (.inr (x4)))], [.inl (v1), .inl ((0 : Int32)), .inr (.inr (x4))], hp σ2, 4, 24)
    refine T_go (S' := (11, [(0, .inr (.inr (x0))), (1, .inl (x1)), (2, .inl (x2)), (3, .inl (x3)), (4, .inr (.inr (x4)))], [.inr (.inl (v1.toInt64)), .inl ((0 : Int32)), .inr (.inr (x4))], hp σ2, 4, 24)) 1 rfl ?_
    refine T_last rfl (fun _ => ?_)
    refine T_let (Sf := fun σ4 => (12, [(0, .inr (.inr (x0))), (1, .inl (x1)), (2, .inl (x2)), (3, .inl (x3)), (4, .inr (.inr (x4)))], [], hp σ4, 4, 24)) (fun σ4 => ?_)
    refine T_go (S' := (28, [(0, .inr (.inr (x0))), (1, .inl (x1)), (2, .inl (x2)), (3, .inl (x3)), (4, .inr (.inr (x4)))], [.inl ((0 : Int32))], hp σ4, 4, 24)) 2 rfl ?_
    exact T_ret rfl
def f_L_drain_15 (s0 : Nat) (s1 : Int32) (s2 : Int64) (σ : eMem) : Option (Int32 × eMem) :=
  if (KH s0).1 = 12 ∧ eix s1 (KH s0).2 = true then eLet ((σ.1, eup σ.2 s0 s1.toNatClampNeg s2) : eMem) (fun σ1 =>
    some ((0 : Int32), σ1)
    ) else none
set_option maxHeartbeats 4000000 in
set_option maxRecDepth 20000 in
theorem s_L_drain_15 (s0 : Nat) (s1 : Int32) (s2 : Int64) (σ : eMem) : Snd false none 6 m_L_drain (f_L_drain_15 s0 s1 s2 σ) (cN iI) (15, [], [.inr (.inl (s2)), .inl (s1), .inr (.inr (s0))], hp σ, 1, 6) := by
  unfold f_L_drain_15
  refine T_last rfl (fun _ => ?_)
  refine T_let (Sf := fun σ1 => (16, [], [], hp σ1, 1, 6)) (fun σ1 => ?_)
  refine T_go (S' := (23, [], [.inl ((0 : Int32))], hp σ1, 1, 6)) 2 rfl ?_
  exact T_ret rfl
def f_L_drain (x0 : Nat) (x1 : Int32) (x2 : Nat) (σ : eMem) : Option (Int32 × eMem) :=
  if (KH x0).1 = 9 then eTry (f_X11_drain x0 x1 σ) (fun E σ3 =>
    if E = 0 then
      some ((1 : Int32), σ3)
    else
    none
    ) (fun v1 σ2 =>
    if v1 = (0 : Int32) then
      f_L_drain_15 x2 (0 : Int32) (0 : Int64) σ2
    else
      f_L_drain_15 x2 (0 : Int32) (1 : Int64) σ2
    ) else none
set_option maxHeartbeats 4000000 in
set_option maxRecDepth 20000 in
theorem s_L_drain (x0 : Nat) (x1 : Int32) (x2 : Nat) (σ : eMem) : ∀ r, f_L_drain x0 x1 x2 σ = some r → Ew false 7 208 [.inr (.inr (x0)), .inl (x1), .inr (.inr (x2))] (hp σ) (cN iI r) := by
  refine T_meth (md := m_L_drain) (d0 := 6) (cv := (cN iI)) rfl (lb rfl) (lb rfl) ?_
  unfold f_L_drain
  show Snd false none _ _ _ _ (0, [(0, .inr (.inr (x0))), (1, .inl (x1)), (2, .inr (.inr (x2)))], [], hp σ, 0, 0)
  refine T_go (S' := (4, [(0, .inr (.inr (x0))), (1, .inl (x1)), (2, .inr (.inr (x2)))], [.inl (x1), .inr (.inr (x0)), .inl ((0 : Int32)), .inr (.inr (x2))], hp σ, 0, 0)) 4 rfl ?_
  refine T_cvh (i := iI) (as := [.inr (.inr (x0)), .inl (x1)]) (rest := [.inl ((0 : Int32)), .inr (.inr (x2))]) (st := [.inl (x1), .inr (.inr (x0)), .inl ((0 : Int32)), .inr (.inr (x2))]) rfl rfl rfl ⟨lb rfl, lb rfl, lb rfl, lb rfl⟩ (fun _ h => Ew_le (lb rfl) (s_X11_drain x0 x1 σ _ h)) (fun _ E σ3 => ?_) (fun _ v1 σ2 => ?_)
  · show SndH _ _ 4 [(0, .inr (.inr (x0))), (1, .inl (x1)), (2, .inr (.inr (x2)))] 1 6 E _ _ σ3
    refine T_hcons (hpc := 19) rfl rfl ?_ ?_
    · refine T_go (S' := (21, [(0, .inr (.inr (x0))), (1, .inl (x1)), (2, .inr (.inr (x2)))], [.inl ((1 : Int32))], hp σ3, 1, 6)) 1 rfl ?_
      exact T_ret rfl
    exact T_hnil
  · show Snd false none _ _ _ (cN iI) (7, [(0, .inr (.inr (x0))), (1, .inl (x1)), (2, .inr (.inr (x2)))], [.inl (v1), .inl ((0 : Int32)), .inr (.inr (x2))], hp σ2, 1, 6)
    refine T_if_eq 14 rfl rfl (fun _ => ?_) (fun _ => ?_)
    · refine T_go (S' := (15, [(0, .inr (.inr (x0))), (1, .inl (x1)), (2, .inr (.inr (x2)))], [.inr (.inl ((0 : Int64))), .inl ((0 : Int32)), .inr (.inr (x2))], hp σ2, 1, 6)) 1 rfl ?_
      refine T_loc (ls' := []) [] rfl ?_
      exact s_L_drain_15 x2 (0 : Int32) (0 : Int64) σ2
    · refine T_go (S' := (15, [(0, .inr (.inr (x0))), (1, .inl (x1)), (2, .inr (.inr (x2)))], [.inr (.inl ((1 : Int64))), .inl ((0 : Int32)), .inr (.inr (x2))], hp σ2, 1, 6)) 2 rfl ?_
      refine T_loc (ls' := []) [] rfl ?_
      exact s_L_drain_15 x2 (0 : Int32) (1 : Int64) σ2
def f_L_fence_15 (s0 : Nat) (s1 : Int32) (s2 : Int64) (σ : eMem) : Option (Int32 × eMem) :=
  if (KH s0).1 = 12 ∧ eix s1 (KH s0).2 = true then eLet ((σ.1, eup σ.2 s0 s1.toNatClampNeg s2) : eMem) (fun σ1 =>
    some ((0 : Int32), σ1)
    ) else none
set_option maxHeartbeats 4000000 in
set_option maxRecDepth 20000 in
theorem s_L_fence_15 (s0 : Nat) (s1 : Int32) (s2 : Int64) (σ : eMem) : Snd false none 3 m_L_fence (f_L_fence_15 s0 s1 s2 σ) (cN iI) (15, [], [.inr (.inl (s2)), .inl (s1), .inr (.inr (s0))], hp σ, 1, 6) := by
  unfold f_L_fence_15
  refine T_last rfl (fun _ => ?_)
  refine T_let (Sf := fun σ1 => (16, [], [], hp σ1, 1, 6)) (fun σ1 => ?_)
  refine T_go (S' := (23, [], [.inl ((0 : Int32))], hp σ1, 1, 6)) 2 rfl ?_
  exact T_ret rfl
def f_L_fence (x0 : Nat) (x1 : Int32) (x2 : Nat) (σ : eMem) : Option (Int32 × eMem) :=
  if (KH x0).1 = 9 then eTry (f_X11_fence x0 x1 σ) (fun E σ3 =>
    if E = 0 then
      some ((1 : Int32), σ3)
    else
    none
    ) (fun v1 σ2 =>
    if v1 = (0 : Int32) then
      f_L_fence_15 x2 (0 : Int32) (0 : Int64) σ2
    else
      f_L_fence_15 x2 (0 : Int32) (1 : Int64) σ2
    ) else none
set_option maxHeartbeats 4000000 in
set_option maxRecDepth 20000 in
theorem s_L_fence (x0 : Nat) (x1 : Int32) (x2 : Nat) (σ : eMem) : ∀ r, f_L_fence x0 x1 x2 σ = some r → Ew false 4 209 [.inr (.inr (x0)), .inl (x1), .inr (.inr (x2))] (hp σ) (cN iI r) := by
  refine T_meth (md := m_L_fence) (d0 := 3) (cv := (cN iI)) rfl (lb rfl) (lb rfl) ?_
  unfold f_L_fence
  show Snd false none _ _ _ _ (0, [(0, .inr (.inr (x0))), (1, .inl (x1)), (2, .inr (.inr (x2)))], [], hp σ, 0, 0)
  refine T_go (S' := (4, [(0, .inr (.inr (x0))), (1, .inl (x1)), (2, .inr (.inr (x2)))], [.inl (x1), .inr (.inr (x0)), .inl ((0 : Int32)), .inr (.inr (x2))], hp σ, 0, 0)) 4 rfl ?_
  refine T_cvh (i := iI) (as := [.inr (.inr (x0)), .inl (x1)]) (rest := [.inl ((0 : Int32)), .inr (.inr (x2))]) (st := [.inl (x1), .inr (.inr (x0)), .inl ((0 : Int32)), .inr (.inr (x2))]) rfl rfl rfl ⟨lb rfl, lb rfl, lb rfl, lb rfl⟩ (fun _ h => Ew_le (lb rfl) (s_X11_fence x0 x1 σ _ h)) (fun _ E σ3 => ?_) (fun _ v1 σ2 => ?_)
  · show SndH _ _ 4 [(0, .inr (.inr (x0))), (1, .inl (x1)), (2, .inr (.inr (x2)))] 1 6 E _ _ σ3
    refine T_hcons (hpc := 19) rfl rfl ?_ ?_
    · refine T_go (S' := (21, [(0, .inr (.inr (x0))), (1, .inl (x1)), (2, .inr (.inr (x2)))], [.inl ((1 : Int32))], hp σ3, 1, 6)) 1 rfl ?_
      exact T_ret rfl
    exact T_hnil
  · show Snd false none _ _ _ (cN iI) (7, [(0, .inr (.inr (x0))), (1, .inl (x1)), (2, .inr (.inr (x2)))], [.inl (v1), .inl ((0 : Int32)), .inr (.inr (x2))], hp σ2, 1, 6)
    refine T_if_eq 14 rfl rfl (fun _ => ?_) (fun _ => ?_)
    · refine T_go (S' := (15, [(0, .inr (.inr (x0))), (1, .inl (x1)), (2, .inr (.inr (x2)))], [.inr (.inl ((0 : Int64))), .inl ((0 : Int32)), .inr (.inr (x2))], hp σ2, 1, 6)) 1 rfl ?_
      refine T_loc (ls' := []) [] rfl ?_
      exact s_L_fence_15 x2 (0 : Int32) (0 : Int64) σ2
    · refine T_go (S' := (15, [(0, .inr (.inr (x0))), (1, .inl (x1)), (2, .inr (.inr (x2)))], [.inr (.inl ((1 : Int64))), .inl ((0 : Int32)), .inr (.inr (x2))], hp σ2, 1, 6)) 2 rfl ?_
      refine T_loc (ls' := []) [] rfl ?_
      exact s_L_fence_15 x2 (0 : Int32) (1 : Int64) σ2
def f_L_add (x0 : Nat) (x1 : Int32) (x2 : Int32) (x3 : Int32) (x4 : Nat) (σ : eMem) : Option (Int32 × eMem) :=
  if (KH x0).1 = 9 then eTry (f_X11_add x0 x1 x2 x3 σ) (fun E σ3 =>
    if E = 0 then
      some ((1 : Int32), σ3)
    else
    if E = 1 then
      some ((2 : Int32), σ3)
    else
    if E = 2 then
      some ((3 : Int32), σ3)
    else
    none
    ) (fun v1 σ2 =>
    if (KH x4).1 = 12 ∧ eix (0 : Int32) (KH x4).2 = true then eLet ((σ2.1, eup σ2.2 x4 (0 : Int32).toNatClampNeg v1.toInt64) : eMem) (fun σ4 =>
      some ((0 : Int32), σ4)
      ) else none
    ) else none
set_option maxHeartbeats 4000000 in
set_option maxRecDepth 20000 in
theorem s_L_add (x0 : Nat) (x1 : Int32) (x2 : Int32) (x3 : Int32) (x4 : Nat) (σ : eMem) : ∀ r, f_L_add x0 x1 x2 x3 x4 σ = some r → Ew false 7 210 [.inr (.inr (x0)), .inl (x1), .inl (x2), .inl (x3), .inr (.inr (x4))] (hp σ) (cN iI r) := by
  refine T_meth (md := m_L_add) (d0 := 6) (cv := (cN iI)) rfl (lb rfl) (lb rfl) ?_
  unfold f_L_add
  show Snd false none _ _ _ _ (0, [(0, .inr (.inr (x0))), (1, .inl (x1)), (2, .inl (x2)), (3, .inl (x3)), (4, .inr (.inr (x4)))], [], hp σ, 0, 0)
  refine T_go (S' := (7, [(0, .inr (.inr (x0))), (1, .inl (x1)), (2, .inl (x2)), (3, .inl (x3)), (4, .inr (.inr (x4)))], [.inl (x3), .inl (x2), .inl (x1), .inr (.inr (x0)), .inl ((0 : Int32)), .inr (.inr (x4))], hp σ, 0, 0)) 6 rfl ?_
  refine T_cvh (i := iI) (as := [.inr (.inr (x0)), .inl (x1), .inl (x2), .inl (x3)]) (rest := [.inl ((0 : Int32)), .inr (.inr (x4))]) (st := [.inl (x3), .inl (x2), .inl (x1), .inr (.inr (x0)), .inl ((0 : Int32)), .inr (.inr (x4))]) rfl rfl rfl ⟨lb rfl, lb rfl, lb rfl, lb rfl⟩ (fun _ h => Ew_le (lb rfl) (s_X11_add x0 x1 x2 x3 σ _ h)) (fun _ E σ3 => ?_) (fun _ v1 σ2 => ?_)
  · show SndH _ _ 7 [(0, .inr (.inr (x0))), (1, .inl (x1)), (2, .inl (x2)), (3, .inl (x3)), (4, .inr (.inr (x4)))] 4 24 E _ _ σ3
    refine T_hcons (hpc := 15) rfl rfl ?_ ?_
    · refine T_go (S' := (18, [(0, .inr (.inr (x0))), (1, .inl (x1)), (2, .inl (x2)), (3, .inl (x3)), (4, .inr (.inr (x4)))], [.inl ((1 : Int32))], hp σ3, 4, 24)) 1 rfl ?_
      exact T_ret rfl
    refine T_hcons (hpc := 19) rfl rfl ?_ ?_
    · refine T_go (S' := (22, [(0, .inr (.inr (x0))), (1, .inl (x1)), (2, .inl (x2)), (3, .inl (x3)), (4, .inr (.inr (x4)))], [.inl ((2 : Int32))], hp σ3, 4, 24)) 1 rfl ?_
      exact T_ret rfl
    refine T_hcons (hpc := 23) rfl rfl ?_ ?_
    · refine T_go (S' := (26, [(0, .inr (.inr (x0))), (1, .inl (x1)), (2, .inl (x2)), (3, .inl (x3)), (4, .inr (.inr (x4)))], [.inl ((3 : Int32))], hp σ3, 4, 24)) 1 rfl ?_
      exact T_ret rfl
    exact T_hnil
  · show Snd false none _ _ _ (cN iI) (10, [(0, .inr (.inr (x0))), (1, .inl (x1)), (2, .inl (x2)), (3, .inl (x3)), (4, .inr (.inr (x4)))], [.inl (v1), .inl ((0 : Int32)), .inr (.inr (x4))], hp σ2, 4, 24)
    refine T_go (S' := (11, [(0, .inr (.inr (x0))), (1, .inl (x1)), (2, .inl (x2)), (3, .inl (x3)), (4, .inr (.inr (x4)))], [.inr (.inl (v1.toInt64)), .inl ((0 : Int32)), .inr (.inr (x4))], hp σ2, 4, 24)) 1 rfl ?_
    refine T_last rfl (fun _ => ?_)
    refine T_let (Sf := fun σ4 => (12, [(0, .inr (.inr (x0))), (1, .inl (x1)), (2, .inl (x2)), (3, .inl (x3)), (4, .inr (.inr (x4)))], [], hp σ4, 4, 24)) (fun σ4 => ?_)
    refine T_go (S' := (28, [(0, .inr (.inr (x0))), (1, .inl (x1)), (2, .inl (x2)), (3, .inl (x3)), (4, .inr (.inr (x4)))], [.inl ((0 : Int32))], hp σ4, 4, 24)) 2 rfl ?_
    exact T_ret rfl
def f_L_begin (x0 : Nat) (x1 : Int32) (x2 : Nat) (σ : eMem) : Option (Int32 × eMem) :=
  if (KH x0).1 = 9 then eTry (f_X11_begin x0 x1 σ) (fun E σ3 =>
    if E = 0 then
      some ((1 : Int32), σ3)
    else
    if E = 2 then
      some ((2 : Int32), σ3)
    else
    none
    ) (fun v1 σ2 =>
    if (KH x2).1 = 12 ∧ eix (0 : Int32) (KH x2).2 = true then eLet ((σ2.1, eup σ2.2 x2 (0 : Int32).toNatClampNeg v1.toInt64) : eMem) (fun σ4 =>
      some ((0 : Int32), σ4)
      ) else none
    ) else none
set_option maxHeartbeats 4000000 in
set_option maxRecDepth 20000 in
theorem s_L_begin (x0 : Nat) (x1 : Int32) (x2 : Nat) (σ : eMem) : ∀ r, f_L_begin x0 x1 x2 σ = some r → Ew false 4 211 [.inr (.inr (x0)), .inl (x1), .inr (.inr (x2))] (hp σ) (cN iI r) := by
  refine T_meth (md := m_L_begin) (d0 := 3) (cv := (cN iI)) rfl (lb rfl) (lb rfl) ?_
  unfold f_L_begin
  show Snd false none _ _ _ _ (0, [(0, .inr (.inr (x0))), (1, .inl (x1)), (2, .inr (.inr (x2)))], [], hp σ, 0, 0)
  refine T_go (S' := (4, [(0, .inr (.inr (x0))), (1, .inl (x1)), (2, .inr (.inr (x2)))], [.inl (x1), .inr (.inr (x0)), .inl ((0 : Int32)), .inr (.inr (x2))], hp σ, 0, 0)) 4 rfl ?_
  refine T_cvh (i := iI) (as := [.inr (.inr (x0)), .inl (x1)]) (rest := [.inl ((0 : Int32)), .inr (.inr (x2))]) (st := [.inl (x1), .inr (.inr (x0)), .inl ((0 : Int32)), .inr (.inr (x2))]) rfl rfl rfl ⟨lb rfl, lb rfl, lb rfl, lb rfl⟩ (fun _ h => Ew_le (lb rfl) (s_X11_begin x0 x1 σ _ h)) (fun _ E σ3 => ?_) (fun _ v1 σ2 => ?_)
  · show SndH _ _ 4 [(0, .inr (.inr (x0))), (1, .inl (x1)), (2, .inr (.inr (x2)))] 2 12 E _ _ σ3
    refine T_hcons (hpc := 12) rfl rfl ?_ ?_
    · refine T_go (S' := (14, [(0, .inr (.inr (x0))), (1, .inl (x1)), (2, .inr (.inr (x2)))], [.inl ((1 : Int32))], hp σ3, 2, 12)) 1 rfl ?_
      exact T_ret rfl
    refine T_hcons (hpc := 15) rfl rfl ?_ ?_
    · refine T_go (S' := (17, [(0, .inr (.inr (x0))), (1, .inl (x1)), (2, .inr (.inr (x2)))], [.inl ((2 : Int32))], hp σ3, 2, 12)) 1 rfl ?_
      exact T_ret rfl
    exact T_hnil
  · show Snd false none _ _ _ (cN iI) (7, [(0, .inr (.inr (x0))), (1, .inl (x1)), (2, .inr (.inr (x2)))], [.inl (v1), .inl ((0 : Int32)), .inr (.inr (x2))], hp σ2, 2, 12)
    refine T_go (S' := (8, [(0, .inr (.inr (x0))), (1, .inl (x1)), (2, .inr (.inr (x2)))], [.inr (.inl (v1.toInt64)), .inl ((0 : Int32)), .inr (.inr (x2))], hp σ2, 2, 12)) 1 rfl ?_
    refine T_last rfl (fun _ => ?_)
    refine T_let (Sf := fun σ4 => (9, [(0, .inr (.inr (x0))), (1, .inl (x1)), (2, .inr (.inr (x2)))], [], hp σ4, 2, 12)) (fun σ4 => ?_)
    refine T_go (S' := (19, [(0, .inr (.inr (x0))), (1, .inl (x1)), (2, .inr (.inr (x2)))], [.inl ((0 : Int32))], hp σ4, 2, 12)) 2 rfl ?_
    exact T_ret rfl
def f_L_end (x0 : Nat) (x1 : Int32) (x2 : Nat) (σ : eMem) : Option (Int32 × eMem) :=
  if (KH x0).1 = 9 then eTry (f_X11_end x0 x1 σ) (fun E σ3 =>
    if E = 0 then
      some ((1 : Int32), σ3)
    else
    if E = 2 then
      some ((2 : Int32), σ3)
    else
    none
    ) (fun v1 σ2 =>
    if (KH x2).1 = 12 ∧ eix (0 : Int32) (KH x2).2 = true then eLet ((σ2.1, eup σ2.2 x2 (0 : Int32).toNatClampNeg v1.toInt64) : eMem) (fun σ4 =>
      some ((0 : Int32), σ4)
      ) else none
    ) else none
set_option maxHeartbeats 4000000 in
set_option maxRecDepth 20000 in
theorem s_L_end (x0 : Nat) (x1 : Int32) (x2 : Nat) (σ : eMem) : ∀ r, f_L_end x0 x1 x2 σ = some r → Ew false 8 212 [.inr (.inr (x0)), .inl (x1), .inr (.inr (x2))] (hp σ) (cN iI r) := by
  refine T_meth (md := m_L_end) (d0 := 7) (cv := (cN iI)) rfl (lb rfl) (lb rfl) ?_
  unfold f_L_end
  show Snd false none _ _ _ _ (0, [(0, .inr (.inr (x0))), (1, .inl (x1)), (2, .inr (.inr (x2)))], [], hp σ, 0, 0)
  refine T_go (S' := (4, [(0, .inr (.inr (x0))), (1, .inl (x1)), (2, .inr (.inr (x2)))], [.inl (x1), .inr (.inr (x0)), .inl ((0 : Int32)), .inr (.inr (x2))], hp σ, 0, 0)) 4 rfl ?_
  refine T_cvh (i := iI) (as := [.inr (.inr (x0)), .inl (x1)]) (rest := [.inl ((0 : Int32)), .inr (.inr (x2))]) (st := [.inl (x1), .inr (.inr (x0)), .inl ((0 : Int32)), .inr (.inr (x2))]) rfl rfl rfl ⟨lb rfl, lb rfl, lb rfl, lb rfl⟩ (fun _ h => Ew_le (lb rfl) (s_X11_end x0 x1 σ _ h)) (fun _ E σ3 => ?_) (fun _ v1 σ2 => ?_)
  · show SndH _ _ 4 [(0, .inr (.inr (x0))), (1, .inl (x1)), (2, .inr (.inr (x2)))] 2 12 E _ _ σ3
    refine T_hcons (hpc := 12) rfl rfl ?_ ?_
    · refine T_go (S' := (14, [(0, .inr (.inr (x0))), (1, .inl (x1)), (2, .inr (.inr (x2)))], [.inl ((1 : Int32))], hp σ3, 2, 12)) 1 rfl ?_
      exact T_ret rfl
    refine T_hcons (hpc := 15) rfl rfl ?_ ?_
    · refine T_go (S' := (17, [(0, .inr (.inr (x0))), (1, .inl (x1)), (2, .inr (.inr (x2)))], [.inl ((2 : Int32))], hp σ3, 2, 12)) 1 rfl ?_
      exact T_ret rfl
    exact T_hnil
  · show Snd false none _ _ _ (cN iI) (7, [(0, .inr (.inr (x0))), (1, .inl (x1)), (2, .inr (.inr (x2)))], [.inl (v1), .inl ((0 : Int32)), .inr (.inr (x2))], hp σ2, 2, 12)
    refine T_go (S' := (8, [(0, .inr (.inr (x0))), (1, .inl (x1)), (2, .inr (.inr (x2)))], [.inr (.inl (v1.toInt64)), .inl ((0 : Int32)), .inr (.inr (x2))], hp σ2, 2, 12)) 1 rfl ?_
    refine T_last rfl (fun _ => ?_)
    refine T_let (Sf := fun σ4 => (9, [(0, .inr (.inr (x0))), (1, .inl (x1)), (2, .inr (.inr (x2)))], [], hp σ4, 2, 12)) (fun σ4 => ?_)
    refine T_go (S' := (19, [(0, .inr (.inr (x0))), (1, .inl (x1)), (2, .inr (.inr (x2)))], [.inl ((0 : Int32))], hp σ4, 2, 12)) 2 rfl ?_
    exact T_ret rfl
def f_L_deliver (x0 : Nat) (x1 : Int32) (x2 : Int32) (x3 : Nat) (σ : eMem) : Option (Int32 × eMem) :=
  if (KH x0).1 = 9 then eTry (f_X11_deliver x0 x1 x2 σ) (fun E σ3 =>
    if E = 0 then
      some ((1 : Int32), σ3)
    else
    if E = 1 then
      some ((2 : Int32), σ3)
    else
    if E = 2 then
      some ((3 : Int32), σ3)
    else
    none
    ) (fun v1 σ2 =>
    if (KH x3).1 = 12 ∧ eix (0 : Int32) (KH x3).2 = true then eLet ((σ2.1, eup σ2.2 x3 (0 : Int32).toNatClampNeg v1.toInt64) : eMem) (fun σ4 =>
      some ((0 : Int32), σ4)
      ) else none
    ) else none
set_option maxHeartbeats 4000000 in
set_option maxRecDepth 20000 in
theorem s_L_deliver (x0 : Nat) (x1 : Int32) (x2 : Int32) (x3 : Nat) (σ : eMem) : ∀ r, f_L_deliver x0 x1 x2 x3 σ = some r → Ew false 8 213 [.inr (.inr (x0)), .inl (x1), .inl (x2), .inr (.inr (x3))] (hp σ) (cN iI r) := by
  refine T_meth (md := m_L_deliver) (d0 := 7) (cv := (cN iI)) rfl (lb rfl) (lb rfl) ?_
  unfold f_L_deliver
  show Snd false none _ _ _ _ (0, [(0, .inr (.inr (x0))), (1, .inl (x1)), (2, .inl (x2)), (3, .inr (.inr (x3)))], [], hp σ, 0, 0)
  refine T_go (S' := (5, [(0, .inr (.inr (x0))), (1, .inl (x1)), (2, .inl (x2)), (3, .inr (.inr (x3)))], [.inl (x2), .inl (x1), .inr (.inr (x0)), .inl ((0 : Int32)), .inr (.inr (x3))], hp σ, 0, 0)) 5 rfl ?_
  refine T_cvh (i := iI) (as := [.inr (.inr (x0)), .inl (x1), .inl (x2)]) (rest := [.inl ((0 : Int32)), .inr (.inr (x3))]) (st := [.inl (x2), .inl (x1), .inr (.inr (x0)), .inl ((0 : Int32)), .inr (.inr (x3))]) rfl rfl rfl ⟨lb rfl, lb rfl, lb rfl, lb rfl⟩ (fun _ h => Ew_le (lb rfl) (s_X11_deliver x0 x1 x2 σ _ h)) (fun _ E σ3 => ?_) (fun _ v1 σ2 => ?_)
  · show SndH _ _ 5 [(0, .inr (.inr (x0))), (1, .inl (x1)), (2, .inl (x2)), (3, .inr (.inr (x3)))] 3 18 E _ _ σ3
    refine T_hcons (hpc := 13) rfl rfl ?_ ?_
    · refine T_go (S' := (16, [(0, .inr (.inr (x0))), (1, .inl (x1)), (2, .inl (x2)), (3, .inr (.inr (x3)))], [.inl ((1 : Int32))], hp σ3, 3, 18)) 1 rfl ?_
      exact T_ret rfl
    refine T_hcons (hpc := 17) rfl rfl ?_ ?_
    · refine T_go (S' := (20, [(0, .inr (.inr (x0))), (1, .inl (x1)), (2, .inl (x2)), (3, .inr (.inr (x3)))], [.inl ((2 : Int32))], hp σ3, 3, 18)) 1 rfl ?_
      exact T_ret rfl
    refine T_hcons (hpc := 21) rfl rfl ?_ ?_
    · refine T_go (S' := (24, [(0, .inr (.inr (x0))), (1, .inl (x1)), (2, .inl (x2)), (3, .inr (.inr (x3)))], [.inl ((3 : Int32))], hp σ3, 3, 18)) 1 rfl ?_
      exact T_ret rfl
    exact T_hnil
  · show Snd false none _ _ _ (cN iI) (8, [(0, .inr (.inr (x0))), (1, .inl (x1)), (2, .inl (x2)), (3, .inr (.inr (x3)))], [.inl (v1), .inl ((0 : Int32)), .inr (.inr (x3))], hp σ2, 3, 18)
    refine T_go (S' := (9, [(0, .inr (.inr (x0))), (1, .inl (x1)), (2, .inl (x2)), (3, .inr (.inr (x3)))], [.inr (.inl (v1.toInt64)), .inl ((0 : Int32)), .inr (.inr (x3))], hp σ2, 3, 18)) 1 rfl ?_
    refine T_last rfl (fun _ => ?_)
    refine T_let (Sf := fun σ4 => (10, [(0, .inr (.inr (x0))), (1, .inl (x1)), (2, .inl (x2)), (3, .inr (.inr (x3)))], [], hp σ4, 3, 18)) (fun σ4 => ?_)
    refine T_go (S' := (26, [(0, .inr (.inr (x0))), (1, .inl (x1)), (2, .inl (x2)), (3, .inr (.inr (x3)))], [.inl ((0 : Int32))], hp σ4, 3, 18)) 2 rfl ?_
    exact T_ret rfl
def f_L_pump (x0 : Nat) (x1 : Int32) (x2 : Nat) (σ : eMem) : Option (Int32 × eMem) :=
  if (KH x0).1 = 9 then eTry (f_X11_pump x0 x1 σ) (fun E σ3 =>
    if E = 1 then
      some ((1 : Int32), σ3)
    else
    none
    ) (fun v1 σ2 =>
    if (KH x2).1 = 12 ∧ eix (0 : Int32) (KH x2).2 = true then eLet ((σ2.1, eup σ2.2 x2 (0 : Int32).toNatClampNeg v1.toInt64) : eMem) (fun σ4 =>
      some ((0 : Int32), σ4)
      ) else none
    ) else none
set_option maxHeartbeats 4000000 in
set_option maxRecDepth 20000 in
theorem s_L_pump (x0 : Nat) (x1 : Int32) (x2 : Nat) (σ : eMem) : ∀ r, f_L_pump x0 x1 x2 σ = some r → Ew false 8 214 [.inr (.inr (x0)), .inl (x1), .inr (.inr (x2))] (hp σ) (cN iI r) := by
  refine T_meth (md := m_L_pump) (d0 := 7) (cv := (cN iI)) rfl (lb rfl) (lb rfl) ?_
  unfold f_L_pump
  show Snd false none _ _ _ _ (0, [(0, .inr (.inr (x0))), (1, .inl (x1)), (2, .inr (.inr (x2)))], [], hp σ, 0, 0)
  refine T_go (S' := (4, [(0, .inr (.inr (x0))), (1, .inl (x1)), (2, .inr (.inr (x2)))], [.inl (x1), .inr (.inr (x0)), .inl ((0 : Int32)), .inr (.inr (x2))], hp σ, 0, 0)) 4 rfl ?_
  refine T_cvh (i := iI) (as := [.inr (.inr (x0)), .inl (x1)]) (rest := [.inl ((0 : Int32)), .inr (.inr (x2))]) (st := [.inl (x1), .inr (.inr (x0)), .inl ((0 : Int32)), .inr (.inr (x2))]) rfl rfl rfl ⟨lb rfl, lb rfl, lb rfl, lb rfl⟩ (fun _ h => Ew_le (lb rfl) (s_X11_pump x0 x1 σ _ h)) (fun _ E σ3 => ?_) (fun _ v1 σ2 => ?_)
  · show SndH _ _ 4 [(0, .inr (.inr (x0))), (1, .inl (x1)), (2, .inr (.inr (x2)))] 1 6 E _ _ σ3
    refine T_hcons (hpc := 12) rfl rfl ?_ ?_
    · refine T_go (S' := (14, [(0, .inr (.inr (x0))), (1, .inl (x1)), (2, .inr (.inr (x2)))], [.inl ((1 : Int32))], hp σ3, 1, 6)) 1 rfl ?_
      exact T_ret rfl
    exact T_hnil
  · show Snd false none _ _ _ (cN iI) (7, [(0, .inr (.inr (x0))), (1, .inl (x1)), (2, .inr (.inr (x2)))], [.inl (v1), .inl ((0 : Int32)), .inr (.inr (x2))], hp σ2, 1, 6)
    refine T_go (S' := (8, [(0, .inr (.inr (x0))), (1, .inl (x1)), (2, .inr (.inr (x2)))], [.inr (.inl (v1.toInt64)), .inl ((0 : Int32)), .inr (.inr (x2))], hp σ2, 1, 6)) 1 rfl ?_
    refine T_last rfl (fun _ => ?_)
    refine T_let (Sf := fun σ4 => (9, [(0, .inr (.inr (x0))), (1, .inl (x1)), (2, .inr (.inr (x2)))], [], hp σ4, 1, 6)) (fun σ4 => ?_)
    refine T_go (S' := (16, [(0, .inr (.inr (x0))), (1, .inl (x1)), (2, .inr (.inr (x2)))], [.inl ((0 : Int32))], hp σ4, 1, 6)) 2 rfl ?_
    exact T_ret rfl
def f_L_queued (x0 : Nat) (x1 : Int32) (x2 : Int32) (x3 : Nat) (σ : eMem) : Option (Int32 × eMem) :=
  if (KH x0).1 = 9 then eTry (f_X11_queued x0 x1 x2 σ) (fun E σ3 =>
    if E = 0 then
      some ((1 : Int32), σ3)
    else
    if E = 1 then
      some ((2 : Int32), σ3)
    else
    none
    ) (fun v1 σ2 =>
    if (KH x3).1 = 12 ∧ eix (0 : Int32) (KH x3).2 = true then eLet ((σ2.1, eup σ2.2 x3 (0 : Int32).toNatClampNeg v1.toInt64) : eMem) (fun σ4 =>
      some ((0 : Int32), σ4)
      ) else none
    ) else none
set_option maxHeartbeats 4000000 in
set_option maxRecDepth 20000 in
theorem s_L_queued (x0 : Nat) (x1 : Int32) (x2 : Int32) (x3 : Nat) (σ : eMem) : ∀ r, f_L_queued x0 x1 x2 x3 σ = some r → Ew false 3 215 [.inr (.inr (x0)), .inl (x1), .inl (x2), .inr (.inr (x3))] (hp σ) (cN iI r) := by
  refine T_meth (md := m_L_queued) (d0 := 2) (cv := (cN iI)) rfl (lb rfl) (lb rfl) ?_
  unfold f_L_queued
  show Snd false none _ _ _ _ (0, [(0, .inr (.inr (x0))), (1, .inl (x1)), (2, .inl (x2)), (3, .inr (.inr (x3)))], [], hp σ, 0, 0)
  refine T_go (S' := (5, [(0, .inr (.inr (x0))), (1, .inl (x1)), (2, .inl (x2)), (3, .inr (.inr (x3)))], [.inl (x2), .inl (x1), .inr (.inr (x0)), .inl ((0 : Int32)), .inr (.inr (x3))], hp σ, 0, 0)) 5 rfl ?_
  refine T_cvh (i := iI) (as := [.inr (.inr (x0)), .inl (x1), .inl (x2)]) (rest := [.inl ((0 : Int32)), .inr (.inr (x3))]) (st := [.inl (x2), .inl (x1), .inr (.inr (x0)), .inl ((0 : Int32)), .inr (.inr (x3))]) rfl rfl rfl ⟨lb rfl, lb rfl, lb rfl, lb rfl⟩ (fun _ h => Ew_le (lb rfl) (s_X11_queued x0 x1 x2 σ _ h)) (fun _ E σ3 => ?_) (fun _ v1 σ2 => ?_)
  · show SndH _ _ 5 [(0, .inr (.inr (x0))), (1, .inl (x1)), (2, .inl (x2)), (3, .inr (.inr (x3)))] 2 12 E _ _ σ3
    refine T_hcons (hpc := 13) rfl rfl ?_ ?_
    · refine T_go (S' := (16, [(0, .inr (.inr (x0))), (1, .inl (x1)), (2, .inl (x2)), (3, .inr (.inr (x3)))], [.inl ((1 : Int32))], hp σ3, 2, 12)) 1 rfl ?_
      exact T_ret rfl
    refine T_hcons (hpc := 17) rfl rfl ?_ ?_
    · refine T_go (S' := (20, [(0, .inr (.inr (x0))), (1, .inl (x1)), (2, .inl (x2)), (3, .inr (.inr (x3)))], [.inl ((2 : Int32))], hp σ3, 2, 12)) 1 rfl ?_
      exact T_ret rfl
    exact T_hnil
  · show Snd false none _ _ _ (cN iI) (8, [(0, .inr (.inr (x0))), (1, .inl (x1)), (2, .inl (x2)), (3, .inr (.inr (x3)))], [.inl (v1), .inl ((0 : Int32)), .inr (.inr (x3))], hp σ2, 2, 12)
    refine T_go (S' := (9, [(0, .inr (.inr (x0))), (1, .inl (x1)), (2, .inl (x2)), (3, .inr (.inr (x3)))], [.inr (.inl (v1.toInt64)), .inl ((0 : Int32)), .inr (.inr (x3))], hp σ2, 2, 12)) 1 rfl ?_
    refine T_last rfl (fun _ => ?_)
    refine T_let (Sf := fun σ4 => (10, [(0, .inr (.inr (x0))), (1, .inl (x1)), (2, .inl (x2)), (3, .inr (.inr (x3)))], [], hp σ4, 2, 12)) (fun σ4 => ?_)
    refine T_go (S' := (22, [(0, .inr (.inr (x0))), (1, .inl (x1)), (2, .inl (x2)), (3, .inr (.inr (x3)))], [.inl ((0 : Int32))], hp σ4, 2, 12)) 2 rfl ?_
    exact T_ret rfl
def f_L_stateOf (x0 : Nat) (x1 : Int32) (x2 : Int32) (x3 : Nat) (σ : eMem) : Option (Int32 × eMem) :=
  if (KH x0).1 = 9 then eTry (f_X11_stateOf x0 x1 x2 σ) (fun E σ3 =>
    if E = 0 then
      some ((1 : Int32), σ3)
    else
    none
    ) (fun v1 σ2 =>
    if (KH x3).1 = 12 ∧ eix (0 : Int32) (KH x3).2 = true then eLet ((σ2.1, eup σ2.2 x3 (0 : Int32).toNatClampNeg v1.toInt64) : eMem) (fun σ4 =>
      some ((0 : Int32), σ4)
      ) else none
    ) else none
set_option maxHeartbeats 4000000 in
set_option maxRecDepth 20000 in
theorem s_L_stateOf (x0 : Nat) (x1 : Int32) (x2 : Int32) (x3 : Nat) (σ : eMem) : ∀ r, f_L_stateOf x0 x1 x2 x3 σ = some r → Ew false 4 216 [.inr (.inr (x0)), .inl (x1), .inl (x2), .inr (.inr (x3))] (hp σ) (cN iI r) := by
  refine T_meth (md := m_L_stateOf) (d0 := 3) (cv := (cN iI)) rfl (lb rfl) (lb rfl) ?_
  unfold f_L_stateOf
  show Snd false none _ _ _ _ (0, [(0, .inr (.inr (x0))), (1, .inl (x1)), (2, .inl (x2)), (3, .inr (.inr (x3)))], [], hp σ, 0, 0)
  refine T_go (S' := (5, [(0, .inr (.inr (x0))), (1, .inl (x1)), (2, .inl (x2)), (3, .inr (.inr (x3)))], [.inl (x2), .inl (x1), .inr (.inr (x0)), .inl ((0 : Int32)), .inr (.inr (x3))], hp σ, 0, 0)) 5 rfl ?_
  refine T_cvh (i := iI) (as := [.inr (.inr (x0)), .inl (x1), .inl (x2)]) (rest := [.inl ((0 : Int32)), .inr (.inr (x3))]) (st := [.inl (x2), .inl (x1), .inr (.inr (x0)), .inl ((0 : Int32)), .inr (.inr (x3))]) rfl rfl rfl ⟨lb rfl, lb rfl, lb rfl, lb rfl⟩ (fun _ h => Ew_le (lb rfl) (s_X11_stateOf x0 x1 x2 σ _ h)) (fun _ E σ3 => ?_) (fun _ v1 σ2 => ?_)
  · show SndH _ _ 5 [(0, .inr (.inr (x0))), (1, .inl (x1)), (2, .inl (x2)), (3, .inr (.inr (x3)))] 2 12 E _ _ σ3
    refine T_hcons (hpc := 13) rfl rfl ?_ ?_
    · refine T_go (S' := (16, [(0, .inr (.inr (x0))), (1, .inl (x1)), (2, .inl (x2)), (3, .inr (.inr (x3)))], [.inl ((1 : Int32))], hp σ3, 2, 12)) 1 rfl ?_
      exact T_ret rfl
    exact T_hnil
  · show Snd false none _ _ _ (cN iI) (8, [(0, .inr (.inr (x0))), (1, .inl (x1)), (2, .inl (x2)), (3, .inr (.inr (x3)))], [.inl (v1), .inl ((0 : Int32)), .inr (.inr (x3))], hp σ2, 2, 12)
    refine T_go (S' := (9, [(0, .inr (.inr (x0))), (1, .inl (x1)), (2, .inl (x2)), (3, .inr (.inr (x3)))], [.inr (.inl (v1.toInt64)), .inl ((0 : Int32)), .inr (.inr (x3))], hp σ2, 2, 12)) 1 rfl ?_
    refine T_last rfl (fun _ => ?_)
    refine T_let (Sf := fun σ4 => (10, [(0, .inr (.inr (x0))), (1, .inl (x1)), (2, .inl (x2)), (3, .inr (.inr (x3)))], [], hp σ4, 2, 12)) (fun σ4 => ?_)
    refine T_go (S' := (18, [(0, .inr (.inr (x0))), (1, .inl (x1)), (2, .inl (x2)), (3, .inr (.inr (x3)))], [.inl ((0 : Int32))], hp σ4, 2, 12)) 2 rfl ?_
    exact T_ret rfl
def f_L_valueIn (x0 : Nat) (x1 : Int32) (x2 : Int32) (x3 : Nat) (σ : eMem) : Option (Int32 × eMem) :=
  if (KH x0).1 = 9 then eTry (f_X11_valueIn x0 x1 x2 σ) (fun E σ3 =>
    if E = 0 then
      some ((1 : Int32), σ3)
    else
    none
    ) (fun v1 σ2 =>
    if (KH x3).1 = 12 ∧ eix (0 : Int32) (KH x3).2 = true then eLet ((σ2.1, eup σ2.2 x3 (0 : Int32).toNatClampNeg v1.toInt64) : eMem) (fun σ4 =>
      some ((0 : Int32), σ4)
      ) else none
    ) else none
set_option maxHeartbeats 4000000 in
set_option maxRecDepth 20000 in
theorem s_L_valueIn (x0 : Nat) (x1 : Int32) (x2 : Int32) (x3 : Nat) (σ : eMem) : ∀ r, f_L_valueIn x0 x1 x2 x3 σ = some r → Ew false 4 217 [.inr (.inr (x0)), .inl (x1), .inl (x2), .inr (.inr (x3))] (hp σ) (cN iI r) := by
  refine T_meth (md := m_L_valueIn) (d0 := 3) (cv := (cN iI)) rfl (lb rfl) (lb rfl) ?_
  unfold f_L_valueIn
  show Snd false none _ _ _ _ (0, [(0, .inr (.inr (x0))), (1, .inl (x1)), (2, .inl (x2)), (3, .inr (.inr (x3)))], [], hp σ, 0, 0)
  refine T_go (S' := (5, [(0, .inr (.inr (x0))), (1, .inl (x1)), (2, .inl (x2)), (3, .inr (.inr (x3)))], [.inl (x2), .inl (x1), .inr (.inr (x0)), .inl ((0 : Int32)), .inr (.inr (x3))], hp σ, 0, 0)) 5 rfl ?_
  refine T_cvh (i := iI) (as := [.inr (.inr (x0)), .inl (x1), .inl (x2)]) (rest := [.inl ((0 : Int32)), .inr (.inr (x3))]) (st := [.inl (x2), .inl (x1), .inr (.inr (x0)), .inl ((0 : Int32)), .inr (.inr (x3))]) rfl rfl rfl ⟨lb rfl, lb rfl, lb rfl, lb rfl⟩ (fun _ h => Ew_le (lb rfl) (s_X11_valueIn x0 x1 x2 σ _ h)) (fun _ E σ3 => ?_) (fun _ v1 σ2 => ?_)
  · show SndH _ _ 5 [(0, .inr (.inr (x0))), (1, .inl (x1)), (2, .inl (x2)), (3, .inr (.inr (x3)))] 2 12 E _ _ σ3
    refine T_hcons (hpc := 13) rfl rfl ?_ ?_
    · refine T_go (S' := (16, [(0, .inr (.inr (x0))), (1, .inl (x1)), (2, .inl (x2)), (3, .inr (.inr (x3)))], [.inl ((1 : Int32))], hp σ3, 2, 12)) 1 rfl ?_
      exact T_ret rfl
    exact T_hnil
  · show Snd false none _ _ _ (cN iI) (8, [(0, .inr (.inr (x0))), (1, .inl (x1)), (2, .inl (x2)), (3, .inr (.inr (x3)))], [.inl (v1), .inl ((0 : Int32)), .inr (.inr (x3))], hp σ2, 2, 12)
    refine T_go (S' := (9, [(0, .inr (.inr (x0))), (1, .inl (x1)), (2, .inl (x2)), (3, .inr (.inr (x3)))], [.inr (.inl (v1.toInt64)), .inl ((0 : Int32)), .inr (.inr (x3))], hp σ2, 2, 12)) 1 rfl ?_
    refine T_last rfl (fun _ => ?_)
    refine T_let (Sf := fun σ4 => (10, [(0, .inr (.inr (x0))), (1, .inl (x1)), (2, .inl (x2)), (3, .inr (.inr (x3)))], [], hp σ4, 2, 12)) (fun σ4 => ?_)
    refine T_go (S' := (18, [(0, .inr (.inr (x0))), (1, .inl (x1)), (2, .inl (x2)), (3, .inr (.inr (x3)))], [.inl ((0 : Int32))], hp σ4, 2, 12)) 2 rfl ?_
    exact T_ret rfl
def f_L_home (x0 : Nat) (x1 : Int32) (x2 : Nat) (σ : eMem) : Option (Int32 × eMem) :=
  if (KH x0).1 = 9 then eTry (f_X11_home x0 x1 σ) (fun E σ3 =>
    if E = 0 then
      some ((1 : Int32), σ3)
    else
    none
    ) (fun v1 σ2 =>
    if (KH x2).1 = 12 ∧ eix (0 : Int32) (KH x2).2 = true then eLet ((σ2.1, eup σ2.2 x2 (0 : Int32).toNatClampNeg v1.toInt64) : eMem) (fun σ4 =>
      some ((0 : Int32), σ4)
      ) else none
    ) else none
set_option maxHeartbeats 4000000 in
set_option maxRecDepth 20000 in
theorem s_L_home (x0 : Nat) (x1 : Int32) (x2 : Nat) (σ : eMem) : ∀ r, f_L_home x0 x1 x2 σ = some r → Ew false 4 218 [.inr (.inr (x0)), .inl (x1), .inr (.inr (x2))] (hp σ) (cN iI r) := by
  refine T_meth (md := m_L_home) (d0 := 3) (cv := (cN iI)) rfl (lb rfl) (lb rfl) ?_
  unfold f_L_home
  show Snd false none _ _ _ _ (0, [(0, .inr (.inr (x0))), (1, .inl (x1)), (2, .inr (.inr (x2)))], [], hp σ, 0, 0)
  refine T_go (S' := (4, [(0, .inr (.inr (x0))), (1, .inl (x1)), (2, .inr (.inr (x2)))], [.inl (x1), .inr (.inr (x0)), .inl ((0 : Int32)), .inr (.inr (x2))], hp σ, 0, 0)) 4 rfl ?_
  refine T_cvh (i := iI) (as := [.inr (.inr (x0)), .inl (x1)]) (rest := [.inl ((0 : Int32)), .inr (.inr (x2))]) (st := [.inl (x1), .inr (.inr (x0)), .inl ((0 : Int32)), .inr (.inr (x2))]) rfl rfl rfl ⟨lb rfl, lb rfl, lb rfl, lb rfl⟩ (fun _ h => Ew_le (lb rfl) (s_X11_home x0 x1 σ _ h)) (fun _ E σ3 => ?_) (fun _ v1 σ2 => ?_)
  · show SndH _ _ 4 [(0, .inr (.inr (x0))), (1, .inl (x1)), (2, .inr (.inr (x2)))] 1 6 E _ _ σ3
    refine T_hcons (hpc := 12) rfl rfl ?_ ?_
    · refine T_go (S' := (14, [(0, .inr (.inr (x0))), (1, .inl (x1)), (2, .inr (.inr (x2)))], [.inl ((1 : Int32))], hp σ3, 1, 6)) 1 rfl ?_
      exact T_ret rfl
    exact T_hnil
  · show Snd false none _ _ _ (cN iI) (7, [(0, .inr (.inr (x0))), (1, .inl (x1)), (2, .inr (.inr (x2)))], [.inl (v1), .inl ((0 : Int32)), .inr (.inr (x2))], hp σ2, 1, 6)
    refine T_go (S' := (8, [(0, .inr (.inr (x0))), (1, .inl (x1)), (2, .inr (.inr (x2)))], [.inr (.inl (v1.toInt64)), .inl ((0 : Int32)), .inr (.inr (x2))], hp σ2, 1, 6)) 1 rfl ?_
    refine T_last rfl (fun _ => ?_)
    refine T_let (Sf := fun σ4 => (9, [(0, .inr (.inr (x0))), (1, .inl (x1)), (2, .inr (.inr (x2)))], [], hp σ4, 1, 6)) (fun σ4 => ?_)
    refine T_go (S' := (16, [(0, .inr (.inr (x0))), (1, .inl (x1)), (2, .inr (.inr (x2)))], [.inl ((0 : Int32))], hp σ4, 1, 6)) 2 rfl ?_
    exact T_ret rfl
def f_L_owner (x0 : Nat) (x1 : Int32) (x2 : Nat) (σ : eMem) : Option (Int32 × eMem) :=
  if (KH x0).1 = 9 then eTry (f_X11_owner x0 x1 σ) (fun E σ3 =>
    if E = 0 then
      some ((1 : Int32), σ3)
    else
    none
    ) (fun v1 σ2 =>
    if (KH x2).1 = 12 ∧ eix (0 : Int32) (KH x2).2 = true then eLet ((σ2.1, eup σ2.2 x2 (0 : Int32).toNatClampNeg v1.toInt64) : eMem) (fun σ4 =>
      some ((0 : Int32), σ4)
      ) else none
    ) else none
set_option maxHeartbeats 4000000 in
set_option maxRecDepth 20000 in
theorem s_L_owner (x0 : Nat) (x1 : Int32) (x2 : Nat) (σ : eMem) : ∀ r, f_L_owner x0 x1 x2 σ = some r → Ew false 4 219 [.inr (.inr (x0)), .inl (x1), .inr (.inr (x2))] (hp σ) (cN iI r) := by
  refine T_meth (md := m_L_owner) (d0 := 3) (cv := (cN iI)) rfl (lb rfl) (lb rfl) ?_
  unfold f_L_owner
  show Snd false none _ _ _ _ (0, [(0, .inr (.inr (x0))), (1, .inl (x1)), (2, .inr (.inr (x2)))], [], hp σ, 0, 0)
  refine T_go (S' := (4, [(0, .inr (.inr (x0))), (1, .inl (x1)), (2, .inr (.inr (x2)))], [.inl (x1), .inr (.inr (x0)), .inl ((0 : Int32)), .inr (.inr (x2))], hp σ, 0, 0)) 4 rfl ?_
  refine T_cvh (i := iI) (as := [.inr (.inr (x0)), .inl (x1)]) (rest := [.inl ((0 : Int32)), .inr (.inr (x2))]) (st := [.inl (x1), .inr (.inr (x0)), .inl ((0 : Int32)), .inr (.inr (x2))]) rfl rfl rfl ⟨lb rfl, lb rfl, lb rfl, lb rfl⟩ (fun _ h => Ew_le (lb rfl) (s_X11_owner x0 x1 σ _ h)) (fun _ E σ3 => ?_) (fun _ v1 σ2 => ?_)
  · show SndH _ _ 4 [(0, .inr (.inr (x0))), (1, .inl (x1)), (2, .inr (.inr (x2)))] 1 6 E _ _ σ3
    refine T_hcons (hpc := 12) rfl rfl ?_ ?_
    · refine T_go (S' := (14, [(0, .inr (.inr (x0))), (1, .inl (x1)), (2, .inr (.inr (x2)))], [.inl ((1 : Int32))], hp σ3, 1, 6)) 1 rfl ?_
      exact T_ret rfl
    exact T_hnil
  · show Snd false none _ _ _ (cN iI) (7, [(0, .inr (.inr (x0))), (1, .inl (x1)), (2, .inr (.inr (x2)))], [.inl (v1), .inl ((0 : Int32)), .inr (.inr (x2))], hp σ2, 1, 6)
    refine T_go (S' := (8, [(0, .inr (.inr (x0))), (1, .inl (x1)), (2, .inr (.inr (x2)))], [.inr (.inl (v1.toInt64)), .inl ((0 : Int32)), .inr (.inr (x2))], hp σ2, 1, 6)) 1 rfl ?_
    refine T_last rfl (fun _ => ?_)
    refine T_let (Sf := fun σ4 => (9, [(0, .inr (.inr (x0))), (1, .inl (x1)), (2, .inr (.inr (x2)))], [], hp σ4, 1, 6)) (fun σ4 => ?_)
    refine T_go (S' := (16, [(0, .inr (.inr (x0))), (1, .inl (x1)), (2, .inr (.inr (x2)))], [.inl ((0 : Int32))], hp σ4, 1, 6)) 2 rfl ?_
    exact T_ret rfl
def f_L_sharers (x0 : Nat) (x1 : Int32) (x2 : Nat) (σ : eMem) : Option (Int32 × eMem) :=
  if (KH x0).1 = 9 then eTry (f_X11_sharers x0 x1 σ) (fun E σ3 =>
    if E = 0 then
      some ((1 : Int32), σ3)
    else
    none
    ) (fun v1 σ2 =>
    if (KH x2).1 = 12 ∧ eix (0 : Int32) (KH x2).2 = true then eLet ((σ2.1, eup σ2.2 x2 (0 : Int32).toNatClampNeg v1.toInt64) : eMem) (fun σ4 =>
      some ((0 : Int32), σ4)
      ) else none
    ) else none
set_option maxHeartbeats 4000000 in
set_option maxRecDepth 20000 in
theorem s_L_sharers (x0 : Nat) (x1 : Int32) (x2 : Nat) (σ : eMem) : ∀ r, f_L_sharers x0 x1 x2 σ = some r → Ew false 4 220 [.inr (.inr (x0)), .inl (x1), .inr (.inr (x2))] (hp σ) (cN iI r) := by
  refine T_meth (md := m_L_sharers) (d0 := 3) (cv := (cN iI)) rfl (lb rfl) (lb rfl) ?_
  unfold f_L_sharers
  show Snd false none _ _ _ _ (0, [(0, .inr (.inr (x0))), (1, .inl (x1)), (2, .inr (.inr (x2)))], [], hp σ, 0, 0)
  refine T_go (S' := (4, [(0, .inr (.inr (x0))), (1, .inl (x1)), (2, .inr (.inr (x2)))], [.inl (x1), .inr (.inr (x0)), .inl ((0 : Int32)), .inr (.inr (x2))], hp σ, 0, 0)) 4 rfl ?_
  refine T_cvh (i := iI) (as := [.inr (.inr (x0)), .inl (x1)]) (rest := [.inl ((0 : Int32)), .inr (.inr (x2))]) (st := [.inl (x1), .inr (.inr (x0)), .inl ((0 : Int32)), .inr (.inr (x2))]) rfl rfl rfl ⟨lb rfl, lb rfl, lb rfl, lb rfl⟩ (fun _ h => Ew_le (lb rfl) (s_X11_sharers x0 x1 σ _ h)) (fun _ E σ3 => ?_) (fun _ v1 σ2 => ?_)
  · show SndH _ _ 4 [(0, .inr (.inr (x0))), (1, .inl (x1)), (2, .inr (.inr (x2)))] 1 6 E _ _ σ3
    refine T_hcons (hpc := 12) rfl rfl ?_ ?_
    · refine T_go (S' := (14, [(0, .inr (.inr (x0))), (1, .inl (x1)), (2, .inr (.inr (x2)))], [.inl ((1 : Int32))], hp σ3, 1, 6)) 1 rfl ?_
      exact T_ret rfl
    exact T_hnil
  · show Snd false none _ _ _ (cN iI) (7, [(0, .inr (.inr (x0))), (1, .inl (x1)), (2, .inr (.inr (x2)))], [.inl (v1), .inl ((0 : Int32)), .inr (.inr (x2))], hp σ2, 1, 6)
    refine T_go (S' := (8, [(0, .inr (.inr (x0))), (1, .inl (x1)), (2, .inr (.inr (x2)))], [.inr (.inl (v1.toInt64)), .inl ((0 : Int32)), .inr (.inr (x2))], hp σ2, 1, 6)) 1 rfl ?_
    refine T_last rfl (fun _ => ?_)
    refine T_let (Sf := fun σ4 => (9, [(0, .inr (.inr (x0))), (1, .inl (x1)), (2, .inr (.inr (x2)))], [], hp σ4, 1, 6)) (fun σ4 => ?_)
    refine T_go (S' := (16, [(0, .inr (.inr (x0))), (1, .inl (x1)), (2, .inr (.inr (x2)))], [.inl ((0 : Int32))], hp σ4, 1, 6)) 2 rfl ?_
    exact T_ret rfl
def f_L_waiting (x0 : Nat) (x1 : Int32) (x2 : Nat) (σ : eMem) : Option (Int32 × eMem) :=
  if (KH x0).1 = 9 then eTry (f_X11_waiting x0 x1 σ) (fun E σ3 =>
    if E = 0 then
      some ((1 : Int32), σ3)
    else
    none
    ) (fun v1 σ2 =>
    if (KH x2).1 = 12 ∧ eix (0 : Int32) (KH x2).2 = true then eLet ((σ2.1, eup σ2.2 x2 (0 : Int32).toNatClampNeg v1.toInt64) : eMem) (fun σ4 =>
      some ((0 : Int32), σ4)
      ) else none
    ) else none
set_option maxHeartbeats 4000000 in
set_option maxRecDepth 20000 in
theorem s_L_waiting (x0 : Nat) (x1 : Int32) (x2 : Nat) (σ : eMem) : ∀ r, f_L_waiting x0 x1 x2 σ = some r → Ew false 4 221 [.inr (.inr (x0)), .inl (x1), .inr (.inr (x2))] (hp σ) (cN iI r) := by
  refine T_meth (md := m_L_waiting) (d0 := 3) (cv := (cN iI)) rfl (lb rfl) (lb rfl) ?_
  unfold f_L_waiting
  show Snd false none _ _ _ _ (0, [(0, .inr (.inr (x0))), (1, .inl (x1)), (2, .inr (.inr (x2)))], [], hp σ, 0, 0)
  refine T_go (S' := (4, [(0, .inr (.inr (x0))), (1, .inl (x1)), (2, .inr (.inr (x2)))], [.inl (x1), .inr (.inr (x0)), .inl ((0 : Int32)), .inr (.inr (x2))], hp σ, 0, 0)) 4 rfl ?_
  refine T_cvh (i := iI) (as := [.inr (.inr (x0)), .inl (x1)]) (rest := [.inl ((0 : Int32)), .inr (.inr (x2))]) (st := [.inl (x1), .inr (.inr (x0)), .inl ((0 : Int32)), .inr (.inr (x2))]) rfl rfl rfl ⟨lb rfl, lb rfl, lb rfl, lb rfl⟩ (fun _ h => Ew_le (lb rfl) (s_X11_waiting x0 x1 σ _ h)) (fun _ E σ3 => ?_) (fun _ v1 σ2 => ?_)
  · show SndH _ _ 4 [(0, .inr (.inr (x0))), (1, .inl (x1)), (2, .inr (.inr (x2)))] 1 6 E _ _ σ3
    refine T_hcons (hpc := 12) rfl rfl ?_ ?_
    · refine T_go (S' := (14, [(0, .inr (.inr (x0))), (1, .inl (x1)), (2, .inr (.inr (x2)))], [.inl ((1 : Int32))], hp σ3, 1, 6)) 1 rfl ?_
      exact T_ret rfl
    exact T_hnil
  · show Snd false none _ _ _ (cN iI) (7, [(0, .inr (.inr (x0))), (1, .inl (x1)), (2, .inr (.inr (x2)))], [.inl (v1), .inl ((0 : Int32)), .inr (.inr (x2))], hp σ2, 1, 6)
    refine T_go (S' := (8, [(0, .inr (.inr (x0))), (1, .inl (x1)), (2, .inr (.inr (x2)))], [.inr (.inl (v1.toInt64)), .inl ((0 : Int32)), .inr (.inr (x2))], hp σ2, 1, 6)) 1 rfl ?_
    refine T_last rfl (fun _ => ?_)
    refine T_let (Sf := fun σ4 => (9, [(0, .inr (.inr (x0))), (1, .inl (x1)), (2, .inr (.inr (x2)))], [], hp σ4, 1, 6)) (fun σ4 => ?_)
    refine T_go (S' := (16, [(0, .inr (.inr (x0))), (1, .inl (x1)), (2, .inr (.inr (x2)))], [.inl ((0 : Int32))], hp σ4, 1, 6)) 2 rfl ?_
    exact T_ret rfl
def f_L_truth (x0 : Nat) (x1 : Int32) (x2 : Nat) (σ : eMem) : Option (Int32 × eMem) :=
  if (KH x0).1 = 9 then eTry (f_X11_truth x0 x1 σ) (fun E σ3 =>
    if E = 0 then
      some ((1 : Int32), σ3)
    else
    none
    ) (fun v1 σ2 =>
    if (KH x2).1 = 12 ∧ eix (0 : Int32) (KH x2).2 = true then eLet ((σ2.1, eup σ2.2 x2 (0 : Int32).toNatClampNeg v1.toInt64) : eMem) (fun σ4 =>
      some ((0 : Int32), σ4)
      ) else none
    ) else none
set_option maxHeartbeats 4000000 in
set_option maxRecDepth 20000 in
theorem s_L_truth (x0 : Nat) (x1 : Int32) (x2 : Nat) (σ : eMem) : ∀ r, f_L_truth x0 x1 x2 σ = some r → Ew false 4 222 [.inr (.inr (x0)), .inl (x1), .inr (.inr (x2))] (hp σ) (cN iI r) := by
  refine T_meth (md := m_L_truth) (d0 := 3) (cv := (cN iI)) rfl (lb rfl) (lb rfl) ?_
  unfold f_L_truth
  show Snd false none _ _ _ _ (0, [(0, .inr (.inr (x0))), (1, .inl (x1)), (2, .inr (.inr (x2)))], [], hp σ, 0, 0)
  refine T_go (S' := (4, [(0, .inr (.inr (x0))), (1, .inl (x1)), (2, .inr (.inr (x2)))], [.inl (x1), .inr (.inr (x0)), .inl ((0 : Int32)), .inr (.inr (x2))], hp σ, 0, 0)) 4 rfl ?_
  refine T_cvh (i := iI) (as := [.inr (.inr (x0)), .inl (x1)]) (rest := [.inl ((0 : Int32)), .inr (.inr (x2))]) (st := [.inl (x1), .inr (.inr (x0)), .inl ((0 : Int32)), .inr (.inr (x2))]) rfl rfl rfl ⟨lb rfl, lb rfl, lb rfl, lb rfl⟩ (fun _ h => Ew_le (lb rfl) (s_X11_truth x0 x1 σ _ h)) (fun _ E σ3 => ?_) (fun _ v1 σ2 => ?_)
  · show SndH _ _ 4 [(0, .inr (.inr (x0))), (1, .inl (x1)), (2, .inr (.inr (x2)))] 1 6 E _ _ σ3
    refine T_hcons (hpc := 12) rfl rfl ?_ ?_
    · refine T_go (S' := (14, [(0, .inr (.inr (x0))), (1, .inl (x1)), (2, .inr (.inr (x2)))], [.inl ((1 : Int32))], hp σ3, 1, 6)) 1 rfl ?_
      exact T_ret rfl
    exact T_hnil
  · show Snd false none _ _ _ (cN iI) (7, [(0, .inr (.inr (x0))), (1, .inl (x1)), (2, .inr (.inr (x2)))], [.inl (v1), .inl ((0 : Int32)), .inr (.inr (x2))], hp σ2, 1, 6)
    refine T_go (S' := (8, [(0, .inr (.inr (x0))), (1, .inl (x1)), (2, .inr (.inr (x2)))], [.inr (.inl (v1.toInt64)), .inl ((0 : Int32)), .inr (.inr (x2))], hp σ2, 1, 6)) 1 rfl ?_
    refine T_last rfl (fun _ => ?_)
    refine T_let (Sf := fun σ4 => (9, [(0, .inr (.inr (x0))), (1, .inl (x1)), (2, .inr (.inr (x2)))], [], hp σ4, 1, 6)) (fun σ4 => ?_)
    refine T_go (S' := (16, [(0, .inr (.inr (x0))), (1, .inl (x1)), (2, .inr (.inr (x2)))], [.inl ((0 : Int32))], hp σ4, 1, 6)) 2 rfl ?_
    exact T_ret rfl
def f_L_counter (x0 : Nat) (x1 : Int32) (x2 : Nat) (σ : eMem) : Option (Int32 × eMem) :=
  if (KH x0).1 = 9 then eTry (f_X11_counter x0 x1 σ) (fun E σ3 =>
    if E = 1 then
      some ((1 : Int32), σ3)
    else
    none
    ) (fun v1 σ2 =>
    if (KH x2).1 = 12 ∧ eix (0 : Int32) (KH x2).2 = true then eLet ((σ2.1, eup σ2.2 x2 (0 : Int32).toNatClampNeg v1.toInt64) : eMem) (fun σ4 =>
      some ((0 : Int32), σ4)
      ) else none
    ) else none
set_option maxHeartbeats 4000000 in
set_option maxRecDepth 20000 in
theorem s_L_counter (x0 : Nat) (x1 : Int32) (x2 : Nat) (σ : eMem) : ∀ r, f_L_counter x0 x1 x2 σ = some r → Ew false 3 223 [.inr (.inr (x0)), .inl (x1), .inr (.inr (x2))] (hp σ) (cN iI r) := by
  refine T_meth (md := m_L_counter) (d0 := 2) (cv := (cN iI)) rfl (lb rfl) (lb rfl) ?_
  unfold f_L_counter
  show Snd false none _ _ _ _ (0, [(0, .inr (.inr (x0))), (1, .inl (x1)), (2, .inr (.inr (x2)))], [], hp σ, 0, 0)
  refine T_go (S' := (4, [(0, .inr (.inr (x0))), (1, .inl (x1)), (2, .inr (.inr (x2)))], [.inl (x1), .inr (.inr (x0)), .inl ((0 : Int32)), .inr (.inr (x2))], hp σ, 0, 0)) 4 rfl ?_
  refine T_cvh (i := iI) (as := [.inr (.inr (x0)), .inl (x1)]) (rest := [.inl ((0 : Int32)), .inr (.inr (x2))]) (st := [.inl (x1), .inr (.inr (x0)), .inl ((0 : Int32)), .inr (.inr (x2))]) rfl rfl rfl ⟨lb rfl, lb rfl, lb rfl, lb rfl⟩ (fun _ h => Ew_le (lb rfl) (s_X11_counter x0 x1 σ _ h)) (fun _ E σ3 => ?_) (fun _ v1 σ2 => ?_)
  · show SndH _ _ 4 [(0, .inr (.inr (x0))), (1, .inl (x1)), (2, .inr (.inr (x2)))] 1 6 E _ _ σ3
    refine T_hcons (hpc := 12) rfl rfl ?_ ?_
    · refine T_go (S' := (14, [(0, .inr (.inr (x0))), (1, .inl (x1)), (2, .inr (.inr (x2)))], [.inl ((1 : Int32))], hp σ3, 1, 6)) 1 rfl ?_
      exact T_ret rfl
    exact T_hnil
  · show Snd false none _ _ _ (cN iI) (7, [(0, .inr (.inr (x0))), (1, .inl (x1)), (2, .inr (.inr (x2)))], [.inl (v1), .inl ((0 : Int32)), .inr (.inr (x2))], hp σ2, 1, 6)
    refine T_go (S' := (8, [(0, .inr (.inr (x0))), (1, .inl (x1)), (2, .inr (.inr (x2)))], [.inr (.inl (v1.toInt64)), .inl ((0 : Int32)), .inr (.inr (x2))], hp σ2, 1, 6)) 1 rfl ?_
    refine T_last rfl (fun _ => ?_)
    refine T_let (Sf := fun σ4 => (9, [(0, .inr (.inr (x0))), (1, .inl (x1)), (2, .inr (.inr (x2)))], [], hp σ4, 1, 6)) (fun σ4 => ?_)
    refine T_go (S' := (16, [(0, .inr (.inr (x0))), (1, .inl (x1)), (2, .inr (.inr (x2)))], [.inl ((0 : Int32))], hp σ4, 1, 6)) 2 rfl ?_
    exact T_ret rfl
def f_L_step (x0 : Nat) (x1 : Int32) (x2 : Int32) (x3 : Int32) (x4 : Int32) (x5 : Nat) (σ : eMem) : Option (Int32 × eMem) :=
  if (KH x0).1 = 9 then eTry (f_X11_step x0 x1 x2 x3 x4 σ) (fun E σ3 =>
    if E = 0 then
      some ((1 : Int32), σ3)
    else
    if E = 1 then
      some ((2 : Int32), σ3)
    else
    if E = 2 then
      some ((3 : Int32), σ3)
    else
    none
    ) (fun v1 σ2 =>
    if (KH x5).1 = 12 ∧ eix (0 : Int32) (KH x5).2 = true then eLet ((σ2.1, eup σ2.2 x5 (0 : Int32).toNatClampNeg v1.toInt64) : eMem) (fun σ4 =>
      some ((0 : Int32), σ4)
      ) else none
    ) else none
set_option maxHeartbeats 4000000 in
set_option maxRecDepth 20000 in
theorem s_L_step (x0 : Nat) (x1 : Int32) (x2 : Int32) (x3 : Int32) (x4 : Int32) (x5 : Nat) (σ : eMem) : ∀ r, f_L_step x0 x1 x2 x3 x4 x5 σ = some r → Ew false 5 224 [.inr (.inr (x0)), .inl (x1), .inl (x2), .inl (x3), .inl (x4), .inr (.inr (x5))] (hp σ) (cN iI r) := by
  refine T_meth (md := m_L_step) (d0 := 4) (cv := (cN iI)) rfl (lb rfl) (lb rfl) ?_
  unfold f_L_step
  show Snd false none _ _ _ _ (0, [(0, .inr (.inr (x0))), (1, .inl (x1)), (2, .inl (x2)), (3, .inl (x3)), (4, .inl (x4)), (5, .inr (.inr (x5)))], [], hp σ, 0, 0)
  refine T_go (S' := (9, [(0, .inr (.inr (x0))), (1, .inl (x1)), (2, .inl (x2)), (3, .inl (x3)), (4, .inl (x4)), (5, .inr (.inr (x5)))], [.inl (x4), .inl (x3), .inl (x2), .inl (x1), .inr (.inr (x0)), .inl ((0 : Int32)), .inr (.inr (x5))], hp σ, 0, 0)) 7 rfl ?_
  refine T_cvh (i := iI) (as := [.inr (.inr (x0)), .inl (x1), .inl (x2), .inl (x3), .inl (x4)]) (rest := [.inl ((0 : Int32)), .inr (.inr (x5))]) (st := [.inl (x4), .inl (x3), .inl (x2), .inl (x1), .inr (.inr (x0)), .inl ((0 : Int32)), .inr (.inr (x5))]) rfl rfl rfl ⟨lb rfl, lb rfl, lb rfl, lb rfl⟩ (fun _ h => Ew_le (lb rfl) (s_X11_step x0 x1 x2 x3 x4 σ _ h)) (fun _ E σ3 => ?_) (fun _ v1 σ2 => ?_)
  · show SndH _ _ 9 [(0, .inr (.inr (x0))), (1, .inl (x1)), (2, .inl (x2)), (3, .inl (x3)), (4, .inl (x4)), (5, .inr (.inr (x5)))] 5 30 E _ _ σ3
    refine T_hcons (hpc := 17) rfl rfl ?_ ?_
    · refine T_go (S' := (20, [(0, .inr (.inr (x0))), (1, .inl (x1)), (2, .inl (x2)), (3, .inl (x3)), (4, .inl (x4)), (5, .inr (.inr (x5)))], [.inl ((1 : Int32))], hp σ3, 5, 30)) 1 rfl ?_
      exact T_ret rfl
    refine T_hcons (hpc := 21) rfl rfl ?_ ?_
    · refine T_go (S' := (24, [(0, .inr (.inr (x0))), (1, .inl (x1)), (2, .inl (x2)), (3, .inl (x3)), (4, .inl (x4)), (5, .inr (.inr (x5)))], [.inl ((2 : Int32))], hp σ3, 5, 30)) 1 rfl ?_
      exact T_ret rfl
    refine T_hcons (hpc := 25) rfl rfl ?_ ?_
    · refine T_go (S' := (28, [(0, .inr (.inr (x0))), (1, .inl (x1)), (2, .inl (x2)), (3, .inl (x3)), (4, .inl (x4)), (5, .inr (.inr (x5)))], [.inl ((3 : Int32))], hp σ3, 5, 30)) 1 rfl ?_
      exact T_ret rfl
    exact T_hnil
  · show Snd false none _ _ _ (cN iI) (12, [(0, .inr (.inr (x0))), (1, .inl (x1)), (2, .inl (x2)), (3, .inl (x3)), (4, .inl (x4)), (5, .inr (.inr (x5)))], [.inl (v1), .inl ((0 : Int32)), .inr (.inr (x5))], hp σ2, 5, 30)
    refine T_go (S' := (13, [(0, .inr (.inr (x0))), (1, .inl (x1)), (2, .inl (x2)), (3, .inl (x3)), (4, .inl (x4)), (5, .inr (.inr (x5)))], [.inr (.inl (v1.toInt64)), .inl ((0 : Int32)), .inr (.inr (x5))], hp σ2, 5, 30)) 1 rfl ?_
    refine T_last rfl (fun _ => ?_)
    refine T_let (Sf := fun σ4 => (14, [(0, .inr (.inr (x0))), (1, .inl (x1)), (2, .inl (x2)), (3, .inl (x3)), (4, .inl (x4)), (5, .inr (.inr (x5)))], [], hp σ4, 5, 30)) (fun σ4 => ?_)
    refine T_go (S' := (30, [(0, .inr (.inr (x0))), (1, .inl (x1)), (2, .inl (x2)), (3, .inl (x3)), (4, .inl (x4)), (5, .inr (.inr (x5)))], [.inl ((0 : Int32))], hp σ4, 5, 30)) 2 rfl ?_
    exact T_ret rfl
def f_L_outcomes (x0 : Nat) (x1 : Int32) (x2 : Nat) (σ : eMem) : Option (Int32 × eMem) :=
  if (KH x0).1 = 9 then eTry (f_X11_outcomes x0 x1 σ) (fun E σ3 =>
    if E = 1 then
      some ((1 : Int32), σ3)
    else
    none
    ) (fun v1 σ2 =>
    if (KH x2).1 = 12 ∧ eix (0 : Int32) (KH x2).2 = true then eLet ((σ2.1, eup σ2.2 x2 (0 : Int32).toNatClampNeg v1.toInt64) : eMem) (fun σ4 =>
      some ((0 : Int32), σ4)
      ) else none
    ) else none
set_option maxHeartbeats 4000000 in
set_option maxRecDepth 20000 in
theorem s_L_outcomes (x0 : Nat) (x1 : Int32) (x2 : Nat) (σ : eMem) : ∀ r, f_L_outcomes x0 x1 x2 σ = some r → Ew false 23 225 [.inr (.inr (x0)), .inl (x1), .inr (.inr (x2))] (hp σ) (cN iI r) := by
  refine T_meth (md := m_L_outcomes) (d0 := 22) (cv := (cN iI)) rfl (lb rfl) (lb rfl) ?_
  unfold f_L_outcomes
  show Snd false none _ _ _ _ (0, [(0, .inr (.inr (x0))), (1, .inl (x1)), (2, .inr (.inr (x2)))], [], hp σ, 0, 0)
  refine T_go (S' := (4, [(0, .inr (.inr (x0))), (1, .inl (x1)), (2, .inr (.inr (x2)))], [.inl (x1), .inr (.inr (x0)), .inl ((0 : Int32)), .inr (.inr (x2))], hp σ, 0, 0)) 4 rfl ?_
  refine T_cvh (i := iI) (as := [.inr (.inr (x0)), .inl (x1)]) (rest := [.inl ((0 : Int32)), .inr (.inr (x2))]) (st := [.inl (x1), .inr (.inr (x0)), .inl ((0 : Int32)), .inr (.inr (x2))]) rfl rfl rfl ⟨lb rfl, lb rfl, lb rfl, lb rfl⟩ (fun _ h => Ew_le (lb rfl) (s_X11_outcomes x0 x1 σ _ h)) (fun _ E σ3 => ?_) (fun _ v1 σ2 => ?_)
  · show SndH _ _ 4 [(0, .inr (.inr (x0))), (1, .inl (x1)), (2, .inr (.inr (x2)))] 1 6 E _ _ σ3
    refine T_hcons (hpc := 12) rfl rfl ?_ ?_
    · refine T_go (S' := (14, [(0, .inr (.inr (x0))), (1, .inl (x1)), (2, .inr (.inr (x2)))], [.inl ((1 : Int32))], hp σ3, 1, 6)) 1 rfl ?_
      exact T_ret rfl
    exact T_hnil
  · show Snd false none _ _ _ (cN iI) (7, [(0, .inr (.inr (x0))), (1, .inl (x1)), (2, .inr (.inr (x2)))], [.inl (v1), .inl ((0 : Int32)), .inr (.inr (x2))], hp σ2, 1, 6)
    refine T_go (S' := (8, [(0, .inr (.inr (x0))), (1, .inl (x1)), (2, .inr (.inr (x2)))], [.inr (.inl (v1.toInt64)), .inl ((0 : Int32)), .inr (.inr (x2))], hp σ2, 1, 6)) 1 rfl ?_
    refine T_last rfl (fun _ => ?_)
    refine T_let (Sf := fun σ4 => (9, [(0, .inr (.inr (x0))), (1, .inl (x1)), (2, .inr (.inr (x2)))], [], hp σ4, 1, 6)) (fun σ4 => ?_)
    refine T_go (S' := (16, [(0, .inr (.inr (x0))), (1, .inl (x1)), (2, .inr (.inr (x2)))], [.inl ((0 : Int32))], hp σ4, 1, 6)) 2 rfl ?_
    exact T_ret rfl
def f_L_outcome (x0 : Nat) (x1 : Int32) (x2 : Int32) (x3 : Nat) (σ : eMem) : Option (Int32 × eMem) :=
  if (KH x0).1 = 9 then eTry (f_X11_outcome x0 x1 x2 σ) (fun E σ3 =>
    if E = 0 then
      some ((1 : Int32), σ3)
    else
    if E = 1 then
      some ((2 : Int32), σ3)
    else
    none
    ) (fun v1 σ2 =>
    if (KH x3).1 = 12 ∧ eix (0 : Int32) (KH x3).2 = true then eLet ((σ2.1, eup σ2.2 x3 (0 : Int32).toNatClampNeg v1.toInt64) : eMem) (fun σ4 =>
      some ((0 : Int32), σ4)
      ) else none
    ) else none
set_option maxHeartbeats 4000000 in
set_option maxRecDepth 20000 in
theorem s_L_outcome (x0 : Nat) (x1 : Int32) (x2 : Int32) (x3 : Nat) (σ : eMem) : ∀ r, f_L_outcome x0 x1 x2 x3 σ = some r → Ew false 23 226 [.inr (.inr (x0)), .inl (x1), .inl (x2), .inr (.inr (x3))] (hp σ) (cN iI r) := by
  refine T_meth (md := m_L_outcome) (d0 := 22) (cv := (cN iI)) rfl (lb rfl) (lb rfl) ?_
  unfold f_L_outcome
  show Snd false none _ _ _ _ (0, [(0, .inr (.inr (x0))), (1, .inl (x1)), (2, .inl (x2)), (3, .inr (.inr (x3)))], [], hp σ, 0, 0)
  refine T_go (S' := (5, [(0, .inr (.inr (x0))), (1, .inl (x1)), (2, .inl (x2)), (3, .inr (.inr (x3)))], [.inl (x2), .inl (x1), .inr (.inr (x0)), .inl ((0 : Int32)), .inr (.inr (x3))], hp σ, 0, 0)) 5 rfl ?_
  refine T_cvh (i := iI) (as := [.inr (.inr (x0)), .inl (x1), .inl (x2)]) (rest := [.inl ((0 : Int32)), .inr (.inr (x3))]) (st := [.inl (x2), .inl (x1), .inr (.inr (x0)), .inl ((0 : Int32)), .inr (.inr (x3))]) rfl rfl rfl ⟨lb rfl, lb rfl, lb rfl, lb rfl⟩ (fun _ h => Ew_le (lb rfl) (s_X11_outcome x0 x1 x2 σ _ h)) (fun _ E σ3 => ?_) (fun _ v1 σ2 => ?_)
  · show SndH _ _ 5 [(0, .inr (.inr (x0))), (1, .inl (x1)), (2, .inl (x2)), (3, .inr (.inr (x3)))] 2 12 E _ _ σ3
    refine T_hcons (hpc := 13) rfl rfl ?_ ?_
    · refine T_go (S' := (16, [(0, .inr (.inr (x0))), (1, .inl (x1)), (2, .inl (x2)), (3, .inr (.inr (x3)))], [.inl ((1 : Int32))], hp σ3, 2, 12)) 1 rfl ?_
      exact T_ret rfl
    refine T_hcons (hpc := 17) rfl rfl ?_ ?_
    · refine T_go (S' := (20, [(0, .inr (.inr (x0))), (1, .inl (x1)), (2, .inl (x2)), (3, .inr (.inr (x3)))], [.inl ((2 : Int32))], hp σ3, 2, 12)) 1 rfl ?_
      exact T_ret rfl
    exact T_hnil
  · show Snd false none _ _ _ (cN iI) (8, [(0, .inr (.inr (x0))), (1, .inl (x1)), (2, .inl (x2)), (3, .inr (.inr (x3)))], [.inl (v1), .inl ((0 : Int32)), .inr (.inr (x3))], hp σ2, 2, 12)
    refine T_go (S' := (9, [(0, .inr (.inr (x0))), (1, .inl (x1)), (2, .inl (x2)), (3, .inr (.inr (x3)))], [.inr (.inl (v1.toInt64)), .inl ((0 : Int32)), .inr (.inr (x3))], hp σ2, 2, 12)) 1 rfl ?_
    refine T_last rfl (fun _ => ?_)
    refine T_let (Sf := fun σ4 => (10, [(0, .inr (.inr (x0))), (1, .inl (x1)), (2, .inl (x2)), (3, .inr (.inr (x3)))], [], hp σ4, 2, 12)) (fun σ4 => ?_)
    refine T_go (S' := (22, [(0, .inr (.inr (x0))), (1, .inl (x1)), (2, .inl (x2)), (3, .inr (.inr (x3)))], [.inl ((0 : Int32))], hp σ4, 2, 12)) 2 rfl ?_
    exact T_ret rfl
def f_L_outcomesAnew (x0 : Nat) (x1 : Int32) (x2 : Nat) (σ : eMem) : Option (Int32 × eMem) :=
  if (KH x0).1 = 9 then eTry (f_X11_outcomesAnew x0 x1 σ) (fun E σ3 =>
    if E = 1 then
      some ((1 : Int32), σ3)
    else
    none
    ) (fun v1 σ2 =>
    if (KH x2).1 = 12 ∧ eix (0 : Int32) (KH x2).2 = true then eLet ((σ2.1, eup σ2.2 x2 (0 : Int32).toNatClampNeg v1.toInt64) : eMem) (fun σ4 =>
      some ((0 : Int32), σ4)
      ) else none
    ) else none
set_option maxHeartbeats 4000000 in
set_option maxRecDepth 20000 in
theorem s_L_outcomesAnew (x0 : Nat) (x1 : Int32) (x2 : Nat) (σ : eMem) : ∀ r, f_L_outcomesAnew x0 x1 x2 σ = some r → Ew false 5 227 [.inr (.inr (x0)), .inl (x1), .inr (.inr (x2))] (hp σ) (cN iI r) := by
  refine T_meth (md := m_L_outcomesAnew) (d0 := 4) (cv := (cN iI)) rfl (lb rfl) (lb rfl) ?_
  unfold f_L_outcomesAnew
  show Snd false none _ _ _ _ (0, [(0, .inr (.inr (x0))), (1, .inl (x1)), (2, .inr (.inr (x2)))], [], hp σ, 0, 0)
  refine T_go (S' := (4, [(0, .inr (.inr (x0))), (1, .inl (x1)), (2, .inr (.inr (x2)))], [.inl (x1), .inr (.inr (x0)), .inl ((0 : Int32)), .inr (.inr (x2))], hp σ, 0, 0)) 4 rfl ?_
  refine T_cvh (i := iI) (as := [.inr (.inr (x0)), .inl (x1)]) (rest := [.inl ((0 : Int32)), .inr (.inr (x2))]) (st := [.inl (x1), .inr (.inr (x0)), .inl ((0 : Int32)), .inr (.inr (x2))]) rfl rfl rfl ⟨lb rfl, lb rfl, lb rfl, lb rfl⟩ (fun _ h => Ew_le (lb rfl) (s_X11_outcomesAnew x0 x1 σ _ h)) (fun _ E σ3 => ?_) (fun _ v1 σ2 => ?_)
  · show SndH _ _ 4 [(0, .inr (.inr (x0))), (1, .inl (x1)), (2, .inr (.inr (x2)))] 1 6 E _ _ σ3
    refine T_hcons (hpc := 12) rfl rfl ?_ ?_
    · refine T_go (S' := (14, [(0, .inr (.inr (x0))), (1, .inl (x1)), (2, .inr (.inr (x2)))], [.inl ((1 : Int32))], hp σ3, 1, 6)) 1 rfl ?_
      exact T_ret rfl
    exact T_hnil
  · show Snd false none _ _ _ (cN iI) (7, [(0, .inr (.inr (x0))), (1, .inl (x1)), (2, .inr (.inr (x2)))], [.inl (v1), .inl ((0 : Int32)), .inr (.inr (x2))], hp σ2, 1, 6)
    refine T_go (S' := (8, [(0, .inr (.inr (x0))), (1, .inl (x1)), (2, .inr (.inr (x2)))], [.inr (.inl (v1.toInt64)), .inl ((0 : Int32)), .inr (.inr (x2))], hp σ2, 1, 6)) 1 rfl ?_
    refine T_last rfl (fun _ => ?_)
    refine T_let (Sf := fun σ4 => (9, [(0, .inr (.inr (x0))), (1, .inl (x1)), (2, .inr (.inr (x2)))], [], hp σ4, 1, 6)) (fun σ4 => ?_)
    refine T_go (S' := (16, [(0, .inr (.inr (x0))), (1, .inl (x1)), (2, .inr (.inr (x2)))], [.inl ((0 : Int32))], hp σ4, 1, 6)) 2 rfl ?_
    exact T_ret rfl
