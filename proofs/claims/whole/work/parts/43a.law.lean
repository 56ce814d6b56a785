/-! the law, with its script -/
section ERL
variable {ex : Bool} {md : eM} {ρ τ : Type} {d pc : Nat} {ls : eL} {t : List eV} {σ : eMem} {c z : Nat} {X Y : Option ρ} {cv : ρ → eR} {oc maxL rt mc ms : Nat} {hs : List (Nat × Nat × Nat × Nat)} {cd : eC} {idx : Nat} {a1 a2 a3 a4 a5 a6 : Nat} {w : Nat × Nat × Nat × Nat × Nat × Nat}
variable {sc : Option (Nat × (Nat → Int32))}

theorem TL_lald {r : Nat} {i : Int32} (hel : elk cd pc = some (.laload, w)) (H : (KH r).1 = 12 ∧ eix i (KH r).2 = true → Snd ex sc d (oc, maxL, rt, mc, ms, hs, cd) X cv (pc + 1, ls, .inr (.inl (σ.2 r i.toNatClampNeg)) :: t, hp σ, c, z)) : Snd ex sc d (oc, maxL, rt, mc, ms, hs, cd) (if (KH r).1 = 12 ∧ eix i (KH r).2 = true then X else none) cv (pc, ls, .inl i :: .inr (.inr r) :: t, hp σ, c, z) := by
  refine T_chk (S1 := (pc + 1, ls, .inr (.inl (σ.2 r i.toNatClampNeg)) :: t, hp σ, c, z)) ?_ H
  unfold stp
  dsimp only
  rw [hel]
  rfl

theorem TL_icmp_eq {x y : Int32} {off : Int} (tgt : Nat) (hel : elk cd pc = some (.if_icmp .eq off, w)) (ht : (pc : Int) + off = (tgt : Int)) (h1 : x = y → Snd ex sc d (oc, maxL, rt, mc, ms, hs, cd) X cv (tgt, ls, t, hp σ, c, z)) (h2 : ¬ (x = y) → Snd ex sc d (oc, maxL, rt, mc, ms, hs, cd) Y cv (pc + 3, ls, t, hp σ, c, z)) : Snd ex sc d (oc, maxL, rt, mc, ms, hs, cd) (if x = y then X else Y) cv (pc, ls, .inl y :: .inl x :: t, hp σ, c, z) := by
  refine T_if (S1 := (tgt, ls, t, hp σ, c, z)) (S2 := (pc + 3, ls, t, hp σ, c, z)) ?_ h1 h2
  unfold stp
  dsimp only
  rw [hel]
  show ejmp pc off (fun q => ebr .eq x y (.inl (q, ls, t, hp σ, c, z)) (.inl (pc + 3, ls, t, hp σ, c, z))) = _
  unfold ejmp
  rw [if_pos (by omega), ht]
  rfl

theorem TL_if_eq {x : Int32} {off : Int} (tgt : Nat) (hel : elk cd pc = some (.ifCond .eq off, w)) (ht : (pc : Int) + off = (tgt : Int)) (h1 : x = 0 → Snd ex sc d (oc, maxL, rt, mc, ms, hs, cd) X cv (tgt, ls, t, hp σ, c, z)) (h2 : ¬ (x = 0) → Snd ex sc d (oc, maxL, rt, mc, ms, hs, cd) Y cv (pc + 3, ls, t, hp σ, c, z)) : Snd ex sc d (oc, maxL, rt, mc, ms, hs, cd) (if x = 0 then X else Y) cv (pc, ls, .inl x :: t, hp σ, c, z) := by
  refine T_if (S1 := (tgt, ls, t, hp σ, c, z)) (S2 := (pc + 3, ls, t, hp σ, c, z)) ?_ h1 h2
  unfold stp
  dsimp only
  rw [hel]
  show ejmp pc off (fun q => ebr .eq x 0 (.inl (q, ls, t, hp σ, c, z)) (.inl (pc + 3, ls, t, hp σ, c, z))) = _
  unfold ejmp
  rw [if_pos (by omega), ht]
  rfl

theorem TL_icmp_ne {x y : Int32} {off : Int} (tgt : Nat) (hel : elk cd pc = some (.if_icmp .ne off, w)) (ht : (pc : Int) + off = (tgt : Int)) (h1 : ¬ x = y → Snd ex sc d (oc, maxL, rt, mc, ms, hs, cd) X cv (tgt, ls, t, hp σ, c, z)) (h2 : ¬ (¬ x = y) → Snd ex sc d (oc, maxL, rt, mc, ms, hs, cd) Y cv (pc + 3, ls, t, hp σ, c, z)) : Snd ex sc d (oc, maxL, rt, mc, ms, hs, cd) (if ¬ x = y then X else Y) cv (pc, ls, .inl y :: .inl x :: t, hp σ, c, z) := by
  refine T_if (S1 := (tgt, ls, t, hp σ, c, z)) (S2 := (pc + 3, ls, t, hp σ, c, z)) ?_ h1 h2
  unfold stp
  dsimp only
  rw [hel]
  show ejmp pc off (fun q => ebr .ne x y (.inl (q, ls, t, hp σ, c, z)) (.inl (pc + 3, ls, t, hp σ, c, z))) = _
  unfold ejmp
  rw [if_pos (by omega), ht]
  rfl

theorem TL_if_ne {x : Int32} {off : Int} (tgt : Nat) (hel : elk cd pc = some (.ifCond .ne off, w)) (ht : (pc : Int) + off = (tgt : Int)) (h1 : ¬ x = 0 → Snd ex sc d (oc, maxL, rt, mc, ms, hs, cd) X cv (tgt, ls, t, hp σ, c, z)) (h2 : ¬ (¬ x = 0) → Snd ex sc d (oc, maxL, rt, mc, ms, hs, cd) Y cv (pc + 3, ls, t, hp σ, c, z)) : Snd ex sc d (oc, maxL, rt, mc, ms, hs, cd) (if ¬ x = 0 then X else Y) cv (pc, ls, .inl x :: t, hp σ, c, z) := by
  refine T_if (S1 := (tgt, ls, t, hp σ, c, z)) (S2 := (pc + 3, ls, t, hp σ, c, z)) ?_ h1 h2
  unfold stp
  dsimp only
  rw [hel]
  show ejmp pc off (fun q => ebr .ne x 0 (.inl (q, ls, t, hp σ, c, z)) (.inl (pc + 3, ls, t, hp σ, c, z))) = _
  unfold ejmp
  rw [if_pos (by omega), ht]
  rfl

theorem TL_icmp_lt {x y : Int32} {off : Int} (tgt : Nat) (hel : elk cd pc = some (.if_icmp .lt off, w)) (ht : (pc : Int) + off = (tgt : Int)) (h1 : x < y → Snd ex sc d (oc, maxL, rt, mc, ms, hs, cd) X cv (tgt, ls, t, hp σ, c, z)) (h2 : ¬ (x < y) → Snd ex sc d (oc, maxL, rt, mc, ms, hs, cd) Y cv (pc + 3, ls, t, hp σ, c, z)) : Snd ex sc d (oc, maxL, rt, mc, ms, hs, cd) (if x < y then X else Y) cv (pc, ls, .inl y :: .inl x :: t, hp σ, c, z) := by
  refine T_if (S1 := (tgt, ls, t, hp σ, c, z)) (S2 := (pc + 3, ls, t, hp σ, c, z)) ?_ h1 h2
  unfold stp
  dsimp only
  rw [hel]
  show ejmp pc off (fun q => ebr .lt x y (.inl (q, ls, t, hp σ, c, z)) (.inl (pc + 3, ls, t, hp σ, c, z))) = _
  unfold ejmp
  rw [if_pos (by omega), ht]
  rfl

theorem TL_if_lt {x : Int32} {off : Int} (tgt : Nat) (hel : elk cd pc = some (.ifCond .lt off, w)) (ht : (pc : Int) + off = (tgt : Int)) (h1 : x < 0 → Snd ex sc d (oc, maxL, rt, mc, ms, hs, cd) X cv (tgt, ls, t, hp σ, c, z)) (h2 : ¬ (x < 0) → Snd ex sc d (oc, maxL, rt, mc, ms, hs, cd) Y cv (pc + 3, ls, t, hp σ, c, z)) : Snd ex sc d (oc, maxL, rt, mc, ms, hs, cd) (if x < 0 then X else Y) cv (pc, ls, .inl x :: t, hp σ, c, z) := by
  refine T_if (S1 := (tgt, ls, t, hp σ, c, z)) (S2 := (pc + 3, ls, t, hp σ, c, z)) ?_ h1 h2
  unfold stp
  dsimp only
  rw [hel]
  show ejmp pc off (fun q => ebr .lt x 0 (.inl (q, ls, t, hp σ, c, z)) (.inl (pc + 3, ls, t, hp σ, c, z))) = _
  unfold ejmp
  rw [if_pos (by omega), ht]
  rfl

theorem TL_icmp_ge {x y : Int32} {off : Int} (tgt : Nat) (hel : elk cd pc = some (.if_icmp .ge off, w)) (ht : (pc : Int) + off = (tgt : Int)) (h1 : y ≤ x → Snd ex sc d (oc, maxL, rt, mc, ms, hs, cd) X cv (tgt, ls, t, hp σ, c, z)) (h2 : ¬ (y ≤ x) → Snd ex sc d (oc, maxL, rt, mc, ms, hs, cd) Y cv (pc + 3, ls, t, hp σ, c, z)) : Snd ex sc d (oc, maxL, rt, mc, ms, hs, cd) (if y ≤ x then X else Y) cv (pc, ls, .inl y :: .inl x :: t, hp σ, c, z) := by
  refine T_if (S1 := (tgt, ls, t, hp σ, c, z)) (S2 := (pc + 3, ls, t, hp σ, c, z)) ?_ h1 h2
  unfold stp
  dsimp only
  rw [hel]
  show ejmp pc off (fun q => ebr .ge x y (.inl (q, ls, t, hp σ, c, z)) (.inl (pc + 3, ls, t, hp σ, c, z))) = _
  unfold ejmp
  rw [if_pos (by omega), ht]
  rfl

theorem TL_if_ge {x : Int32} {off : Int} (tgt : Nat) (hel : elk cd pc = some (.ifCond .ge off, w)) (ht : (pc : Int) + off = (tgt : Int)) (h1 : 0 ≤ x → Snd ex sc d (oc, maxL, rt, mc, ms, hs, cd) X cv (tgt, ls, t, hp σ, c, z)) (h2 : ¬ (0 ≤ x) → Snd ex sc d (oc, maxL, rt, mc, ms, hs, cd) Y cv (pc + 3, ls, t, hp σ, c, z)) : Snd ex sc d (oc, maxL, rt, mc, ms, hs, cd) (if 0 ≤ x then X else Y) cv (pc, ls, .inl x :: t, hp σ, c, z) := by
  refine T_if (S1 := (tgt, ls, t, hp σ, c, z)) (S2 := (pc + 3, ls, t, hp σ, c, z)) ?_ h1 h2
  unfold stp
  dsimp only
  rw [hel]
  show ejmp pc off (fun q => ebr .ge x 0 (.inl (q, ls, t, hp σ, c, z)) (.inl (pc + 3, ls, t, hp σ, c, z))) = _
  unfold ejmp
  rw [if_pos (by omega), ht]
  rfl

theorem TL_icmp_gt {x y : Int32} {off : Int} (tgt : Nat) (hel : elk cd pc = some (.if_icmp .gt off, w)) (ht : (pc : Int) + off = (tgt : Int)) (h1 : y < x → Snd ex sc d (oc, maxL, rt, mc, ms, hs, cd) X cv (tgt, ls, t, hp σ, c, z)) (h2 : ¬ (y < x) → Snd ex sc d (oc, maxL, rt, mc, ms, hs, cd) Y cv (pc + 3, ls, t, hp σ, c, z)) : Snd ex sc d (oc, maxL, rt, mc, ms, hs, cd) (if y < x then X else Y) cv (pc, ls, .inl y :: .inl x :: t, hp σ, c, z) := by
  refine T_if (S1 := (tgt, ls, t, hp σ, c, z)) (S2 := (pc + 3, ls, t, hp σ, c, z)) ?_ h1 h2
  unfold stp
  dsimp only
  rw [hel]
  show ejmp pc off (fun q => ebr .gt x y (.inl (q, ls, t, hp σ, c, z)) (.inl (pc + 3, ls, t, hp σ, c, z))) = _
  unfold ejmp
  rw [if_pos (by omega), ht]
  rfl

theorem TL_if_gt {x : Int32} {off : Int} (tgt : Nat) (hel : elk cd pc = some (.ifCond .gt off, w)) (ht : (pc : Int) + off = (tgt : Int)) (h1 : 0 < x → Snd ex sc d (oc, maxL, rt, mc, ms, hs, cd) X cv (tgt, ls, t, hp σ, c, z)) (h2 : ¬ (0 < x) → Snd ex sc d (oc, maxL, rt, mc, ms, hs, cd) Y cv (pc + 3, ls, t, hp σ, c, z)) : Snd ex sc d (oc, maxL, rt, mc, ms, hs, cd) (if 0 < x then X else Y) cv (pc, ls, .inl x :: t, hp σ, c, z) := by
  refine T_if (S1 := (tgt, ls, t, hp σ, c, z)) (S2 := (pc + 3, ls, t, hp σ, c, z)) ?_ h1 h2
  unfold stp
  dsimp only
  rw [hel]
  show ejmp pc off (fun q => ebr .gt x 0 (.inl (q, ls, t, hp σ, c, z)) (.inl (pc + 3, ls, t, hp σ, c, z))) = _
  unfold ejmp
  rw [if_pos (by omega), ht]
  rfl

theorem TL_icmp_le {x y : Int32} {off : Int} (tgt : Nat) (hel : elk cd pc = some (.if_icmp .le off, w)) (ht : (pc : Int) + off = (tgt : Int)) (h1 : x ≤ y → Snd ex sc d (oc, maxL, rt, mc, ms, hs, cd) X cv (tgt, ls, t, hp σ, c, z)) (h2 : ¬ (x ≤ y) → Snd ex sc d (oc, maxL, rt, mc, ms, hs, cd) Y cv (pc + 3, ls, t, hp σ, c, z)) : Snd ex sc d (oc, maxL, rt, mc, ms, hs, cd) (if x ≤ y then X else Y) cv (pc, ls, .inl y :: .inl x :: t, hp σ, c, z) := by
  refine T_if (S1 := (tgt, ls, t, hp σ, c, z)) (S2 := (pc + 3, ls, t, hp σ, c, z)) ?_ h1 h2
  unfold stp
  dsimp only
  rw [hel]
  show ejmp pc off (fun q => ebr .le x y (.inl (q, ls, t, hp σ, c, z)) (.inl (pc + 3, ls, t, hp σ, c, z))) = _
  unfold ejmp
  rw [if_pos (by omega), ht]
  rfl

theorem TL_if_le {x : Int32} {off : Int} (tgt : Nat) (hel : elk cd pc = some (.ifCond .le off, w)) (ht : (pc : Int) + off = (tgt : Int)) (h1 : x ≤ 0 → Snd ex sc d (oc, maxL, rt, mc, ms, hs, cd) X cv (tgt, ls, t, hp σ, c, z)) (h2 : ¬ (x ≤ 0) → Snd ex sc d (oc, maxL, rt, mc, ms, hs, cd) Y cv (pc + 3, ls, t, hp σ, c, z)) : Snd ex sc d (oc, maxL, rt, mc, ms, hs, cd) (if x ≤ 0 then X else Y) cv (pc, ls, .inl x :: t, hp σ, c, z) := by
  refine T_if (S1 := (tgt, ls, t, hp σ, c, z)) (S2 := (pc + 3, ls, t, hp σ, c, z)) ?_ h1 h2
  unfold stp
  dsimp only
  rw [hel]
  show ejmp pc off (fun q => ebr .le x 0 (.inl (q, ls, t, hp σ, c, z)) (.inl (pc + 3, ls, t, hp σ, c, z))) = _
  unfold ejmp
  rw [if_pos (by omega), ht]
  rfl

theorem TL_cv {i : τ → Option eV} {y n f g r : Nat} {st as rest : List eV} {G : Option (τ × eMem)} {K : τ × eMem → Option ρ} (hel : elk cd pc = some (.invokevirtual idx, y, a2, n, a4, f, g)) (hr : st.drop n = .inr (.inr r) :: rest) (has : (st.take (n + 1)).reverse = as) (hc : c + f ≤ mc ∧ z + g ≤ ms ∧ ecats rest ≤ 8 ∧ n + 1 ≤ st.length) (hg : ∀ r2, G = some r2 → Ew ex d y as (hp σ) (cN i r2)) (hk : (KH r).1 = a4 → ∀ r2 : τ × eMem, Snd ex sc d (oc, maxL, rt, mc, ms, hs, cd) (K r2) cv (pc + 3, ls, (i r2.1).toList ++ rest, hp r2.2, c + f, z + g)) : Snd ex sc d (oc, maxL, rt, mc, ms, hs, cd) (if (KH r).1 = a4 then G.bind K else none) cv (pc, ls, st, hp σ, c, z) := by
  refine T_callc (as := as) (rest := rest) (c := c + f) (z := z + g) (w := 0) (vv := fun r2 => i r2.1) (hh := fun r2 => hp r2.2) ?_ hg hk
  unfold stp
  dsimp only
  rw [hel]
  show (match st.drop n with | .inr (.inr r) :: _ => (if (KH r).1 = a4 then ecall mc ms y (n + 1) f g pc ls st (hp σ) c z else estk) | _ => estk) = _
  rw [hr]
  dsimp only
  unfold ecall
  have hd : st.drop (n + 1) = rest := by rw [← List.tail_drop, hr]; rfl
  rw [hd, has, if_pos hc]

theorem TL_cs {i : τ → Option eV} {y n f g : Nat} {st as rest : List eV} {G : Option (τ × eMem)} {K : τ × eMem → Option ρ} (hel : elk cd pc = some (.invokestatic idx, y, a2, n, a4, f, g)) (ha2 : a2 < 2) (hr : st.drop n = rest) (has : (st.take n).reverse = as) (hc : c + f ≤ mc ∧ z + g ≤ ms ∧ ecats rest ≤ 8 ∧ n ≤ st.length) (hg : ∀ r2, G = some r2 → Ew ex d y as (hp σ) (cN i r2)) (hk : ∀ r2 : τ × eMem, Snd ex sc d (oc, maxL, rt, mc, ms, hs, cd) (K r2) cv (pc + 3, ls, (i r2.1).toList ++ rest, hp r2.2, c + f, z + g)) : Snd ex sc d (oc, maxL, rt, mc, ms, hs, cd) (G.bind K) cv (pc, ls, st, hp σ, c, z) := by
  refine T_call (as := as) (rest := rest) (c := c + f) (z := z + g) (w := 0) (vv := fun r2 => i r2.1) (hh := fun r2 => hp r2.2) ?_ hg hk
  unfold stp
  dsimp only
  rw [hel]
  have e : a2 = 0 ∨ a2 = 1 := by omega
  rcases e with e | e <;> subst e
  all_goals
    show ecall mc ms y n f g pc ls st (hp σ) c z = _
    unfold ecall
    rw [hr, has, if_pos hc]

theorem TL_sw (k : Int32) {x : Int32} {tgt : Nat} (h : stp ex sc (oc, maxL, rt, mc, ms, hs, cd) (pc, ls, .inl k :: t, hp σ, c, z) = .inl (tgt, ls, t, hp σ, c, z)) (h1 : x = k → Snd ex sc d (oc, maxL, rt, mc, ms, hs, cd) X cv (tgt, ls, t, hp σ, c, z)) (h2 : ¬ x = k → Snd ex sc d (oc, maxL, rt, mc, ms, hs, cd) Y cv (pc, ls, .inl x :: t, hp σ, c, z)) : Snd ex sc d (oc, maxL, rt, mc, ms, hs, cd) (if x = k then X else Y) cv (pc, ls, .inl x :: t, hp σ, c, z) := by
  by_cases q : x = k
  · rw [if_pos q]
    have h3 := h1 q
    clear h1 h2
    subst q
    refine T_go 1 ?_ h3
    unfold eGo
    rw [h]
    rfl
  · rw [if_neg q]
    exact h2 q

theorem TL_tso {x : Int32} {dflt lo hi : Int} {offs : Array Int} (tgt : Nat) (hel : elk cd pc = some (.tableswitch dflt lo hi offs, w)) (hx : x.toInt < lo ∨ hi < x.toInt) (ht : (pc : Int) + dflt = (tgt : Int)) (h1 : Snd ex sc d (oc, maxL, rt, mc, ms, hs, cd) X cv (tgt, ls, t, hp σ, c, z)) : Snd ex sc d (oc, maxL, rt, mc, ms, hs, cd) X cv (pc, ls, .inl x :: t, hp σ, c, z) := by
  refine T_go 1 ?_ h1
  unfold eGo stp
  dsimp only
  rw [hel]
  show (match (if x.toInt < lo ∨ hi < x.toInt then ejmp pc dflt (fun q => .inl (q, ls, t, hp σ, c, z)) else (match offs[(x.toInt - lo).toNat]? with
    | some o => ejmp pc o (fun q => .inl (q, ls, t, hp σ, c, z))
    | none => estk)) with | .inl s' => _ | o => o) = _
  rw [if_pos hx]
  unfold ejmp
  rw [if_pos (by omega), ht]
  rfl

theorem TL_iald {N : Nat} {xs : Nat → Int32} {i : Int32} (hel : elk cd pc = some (.iaload, w)) (H : eix i N = true → Snd ex (some (N, xs)) d (oc, maxL, rt, mc, ms, hs, cd) X cv (pc + 1, ls, .inl (xs i.toNatClampNeg) :: t, hp σ, c, z)) : Snd ex (some (N, xs)) d (oc, maxL, rt, mc, ms, hs, cd) (if eix i N = true then X else none) cv (pc, ls, .inl i :: .inr (.inr 1) :: t, hp σ, c, z) := by
  refine T_chk (S1 := (pc + 1, ls, .inl (xs i.toNatClampNeg) :: t, hp σ, c, z)) ?_ H
  unfold stp
  dsimp only
  rw [hel]
  rfl
end ERL

