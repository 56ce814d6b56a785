/-! the law, with its script -/
section ERL
variable {ex : Bool} {md : eM} {ρ τ : Type} {d pc : Nat} {ls : eL} {t : List eV} {σ : eMem} {c z : Nat} {X Y : Option ρ} {cv : ρ → eR} {oc maxL rt mc ms : Nat} {hs : List (Nat × Nat × Nat × Nat)} {cd : eC} {idx : Nat} {a1 a2 a3 a4 a5 a6 : Nat} {w : Nat × Nat × Nat × Nat × Nat × Nat}
variable {sc : Option (Nat × (Nat → Int32))}

theorem TL_lald {r : Nat} {i : Int32} (hel : elk cd pc = some (.laload, w)) (H : (KH r).1 = 12 ∧ eix i (KH r).2 = true → Snd ex sc d (oc, maxL, rt, mc, ms, hs, cd) X cv (pc + 1, ls, .inr (.inl (σ.2 r i.toNatClampNeg)) :: t, hp σ, c, z)) : Snd ex sc d (oc, maxL, rt, mc, ms, hs, cd) (if (KH r).1 = 12 ∧ eix i (KH r).2 = true then X else none) cv (pc, ls, .inl i :: .inr (.inr r) :: t, hp σ, c, z) := by
  refine T_chk (S1 := (pc + 1, ls, .inr (.inl (σ.2 r i.toNatClampNeg)) :: t, hp σ, c, z)) ?_ H
  unfold stp
  dsimp only
  rw [hel]
  rfl

theorem TL_icmp_eq {x y : Int32} {off : Int} (tgt : Nat) (hel : elk cd pc = some (.if_icmp .eq off, w)) (ht : (pc : Int) + off = (tgt : Int)) (h1 : x = y → Snd ex sc d (oc, maxL, rt, mc, ms, hs, cd) X cv (tgt, ls, t, hp σ, c, z)) (h2 : ¬ (x = y) → Snd ex sc d (oc, maxL, rt, mc, ms, hs, cd) Y cv (pc + 3, ls, t, hp σ, c, z)) : Snd ex sc d (oc, maxL, rt, mc, ms, hs, cd) (if x = y then X else Y) cv (pc, ls, .inl y :: .inl x :: t, hp σ, c, z) := by
  refine T_if (S1 := (tgt, ls, t, hp σ, c, z)) (S2 := (pc + 3, ls, t, hp σ, c, z)) ?_ h1 h2
  unfold stp
  dsimp only
  rw [hel]
  show ejmp pc off (fun q => ebr .eq x y (.inl (q, ls, t, hp σ, c, z)) (.inl (pc + 3, ls, t, hp σ, c, z))) = _
  unfold ejmp
  rw [if_pos (by omega), ht]
  rfl

theorem TL_if_eq {x : Int32} {off : Int} (tgt : Nat) (hel : elk cd pc = some (.ifCond .eq off, w)) (ht : (pc : Int) + off = (tgt : Int)) (h1 : x = 0 → Snd ex sc d (oc, maxL, rt, mc, ms, hs, cd) X cv (tgt, ls, t, hp σ, c, z)) (h2 : ¬ (x = 0) → Snd ex sc d (oc, maxL, rt, mc, ms, hs, cd) Y cv (pc + 3, ls, t, hp σ, c, z)) : Snd ex sc d (oc, maxL, rt, mc, ms, hs, cd) (if x = 0 then X else Y) cv (pc, ls, .inl x :: t, hp σ, c, z) := by
  refine T_if (S1 := (tgt, ls, t, hp σ, c, z)) (S2 := (pc + 3, ls, t, hp σ, c, z)) ?_ h1 h2
  unfold stp
  dsimp only
  rw [hel]
  show ejmp pc off (fun q => ebr .eq x 0 (.inl (q, ls, t, hp σ, c, z)) (.inl (pc + 3, ls, t, hp σ, c, z))) = _
  unfold ejmp
  rw [if_pos (by omega), ht]
  rfl

theorem TL_icmp_ne {x y : Int32} {off : Int} (tgt : Nat) (hel : elk cd pc = some (.if_icmp .ne off, w)) (ht : (pc : Int) + off = (tgt : Int)) (h1 : ¬ x = y → Snd ex sc d (oc, maxL, rt, mc, ms, hs, cd) X cv (tgt, ls, t, hp σ, c, z)) (h2 : ¬ (¬ x = y) → Snd ex sc d (oc, maxL, rt, mc, ms, hs, cd) Y cv (pc + 3, ls, t, hp σ, c, z)) : Snd ex sc d (oc, maxL, rt, mc, ms, hs, cd) (if ¬ x = y then X else Y) cv (pc, ls, .inl y :: .inl x :: t, hp σ, c, z) := by
  refine T_if (S1 := (tgt, ls, t, hp σ, c, z)) (S2 := (pc + 3, ls, t, hp σ, c, z)) ?_ h1 h2
  unfold stp
  dsimp only
  rw [hel]
  show ejmp pc off (fun q => ebr .ne x y (.inl (q, ls, t, hp σ, c, z)) (.inl (pc + 3, ls, t, hp σ, c, z))) = _
  unfold ejmp
  rw [if_pos (by omega), ht]
  rfl

theorem TL_if_ne {x : Int32} {off : Int} (tgt : Nat) (hel : elk cd pc = some (.ifCond .ne off, w)) (ht : (pc : Int) + off = (tgt : Int)) (h1 : ¬ x = 0 → Snd ex sc d (oc, maxL, rt, mc, ms, hs, cd) X cv (tgt, ls, t, hp σ, c, z)) (h2 : ¬ (¬ x = 0) → Snd ex sc d (oc, maxL, rt, mc, ms, hs, cd) Y cv (pc + 3, ls, t, hp σ, c, z)) : Snd ex sc d (oc, maxL, rt, mc, ms, hs, cd) (if ¬ x = 0 then X else Y) cv (pc, ls, .inl x :: t, hp σ, c, z) := by
  refine T_if (S1 := (tgt, ls, t, hp σ, c, z)) (S2 := (pc + 3, ls, t, hp σ, c, z)) ?_ h1 h2
  unfold stp
  dsimp only
  rw [hel]
  show ejmp pc off (fun q => ebr .ne x 0 (.inl (q, ls, t, hp σ, c, z)) (.inl (pc + 3, ls, t, hp σ, c, z))) = _
  unfold ejmp
  rw [if_pos (by omega), ht]
  rfl

theorem TL_icmp_lt {x y : Int32} {off : Int} (tgt : Nat) (hel : elk cd pc = some (.if_icmp .lt off, w)) (ht : (pc : Int) + off = (tgt : Int)) (h1 : x < y → Snd ex sc d (oc, maxL, rt, mc, ms, hs, cd) X cv (tgt, ls, t, hp σ, c, z)) (h2 : ¬ (x < y) → Snd ex sc d (oc, maxL, rt, mc, ms, hs, cd) Y cv (pc + 3, ls, t, hp σ, c, z)) : Snd ex sc d (oc, maxL, rt, mc, ms, hs, cd) (if x < y then X else Y) cv (pc, ls, .inl y :: .inl x :: t, hp σ, c, z) := by
  refine T_if (S1 := (tgt, ls, t, hp σ, c, z)) (S2 := (pc + 3, ls, t, hp σ, c, z)) ?_ h1 h2
  unfold stp
  dsimp only
  rw [hel]
  show ejmp pc off (fun q => ebr .lt x y (.inl (q, ls, t, hp σ, c, z)) (.inl (pc + 3, ls, t, hp σ, c, z))) = _
  unfold ejmp
  rw [if_pos (by omega), ht]
  rfl

theorem TL_if_lt {x : Int32} {off : Int} (tgt : Nat) (hel : elk cd pc = some (.ifCond .lt off, w)) (ht : (pc : Int) + off = (tgt : Int)) (h1 : x < 0 → Snd ex sc d (oc, maxL, rt, mc, ms, hs, cd) X cv (tgt, ls, t, hp σ, c, z)) (h2 : ¬ (x < 0) → Snd ex sc d (oc, maxL, rt, mc, ms, hs, cd) Y cv (pc + 3, ls, t, hp σ, c, z)) : Snd ex sc d (oc, maxL, rt, mc, ms, hs, cd) (if x < 0 then X else Y) cv (pc, ls, .inl x :: t, hp σ, c, z) := by
  refine T_if (S1 := (tgt, ls, t, hp σ, c, z)) (S2 := (pc + 3, ls, t, hp σ, c, z)) ?_ h1 h2
  unfold stp
  dsimp only
  rw [hel]
  show ejmp pc off (fun q => ebr .lt x 0 (.inl (q, ls, t, hp σ, c, z)) (.inl (pc + 3, ls, t, hp σ, c, z))) = _
  unfold ejmp
  rw [if_pos (by omega), ht]
  rfl

theorem TL_icmp_ge {x y : Int32} {off : Int} (tgt : Nat) (hel : elk cd pc = some (.if_icmp .ge off, w)) (ht : (pc : Int) + off = (tgt : Int)) (h1 : y ≤ x → Snd ex sc d (oc, maxL, rt, mc, ms, hs, cd) X cv (tgt, ls, t, hp σ, c, z)) (h2 : ¬ (y ≤ x) → Snd ex sc d (oc, maxL, rt, mc, ms, hs, cd) Y cv (pc + 3, ls, t, hp σ, c, z)) : Snd ex sc d (oc, maxL, rt, mc, ms, hs, cd) (if y ≤ x then X else Y) cv (pc, ls, .inl y :: .inl x :: t, hp σ, c, z) := by
  refine T_if (S1 := (tgt, ls, t, hp σ, c, z)) (S2 := (pc + 3, ls, t, hp σ, c, z)) ?_ h1 h2
  unfold stp
  dsimp only
  rw [hel]
  show ejmp pc off (fun q => ebr .ge x y (.inl (q, ls, t, hp σ, c, z)) (.inl (pc + 3, ls, t, hp σ, c, z))) = _
  unfold ejmp
  rw [if_pos (by omega), ht]
  rfl

theorem TL_if_ge {x : Int32} {off : Int} (tgt : Nat) (hel : elk cd pc = some (.ifCond .ge off, w)) (ht : (pc : Int) + off = (tgt : Int)) (h1 : 0 ≤ x → Snd ex sc d (oc, maxL, rt, mc, ms, hs, cd) X cv (tgt, ls, t, hp σ, c, z)) (h2 : ¬ (0 ≤ x) → Snd ex sc d (oc, maxL, rt, mc, ms, hs, cd) Y cv (pc + 3, ls, t, hp σ, c, z)) : Snd ex sc d (oc, maxL, rt, mc, ms, hs, cd) (if 0 ≤ x then X else Y) cv (pc, ls, .inl x :: t, hp σ, c, z) := by
  refine T_if (S1 := (tgt, ls, t, hp σ, c, z)) (S2 := (pc + 3, ls, t, hp σ, c, z)) ?_ h1 h2
  unfold stp
  dsimp only
  rw [hel]
  show ejmp pc off (fun q => ebr .ge x 0 (.inl (q, ls, t, hp σ, c, z)) (.inl (pc + 3, ls, t, hp σ, c, z))) = _
  unfold ejmp
  rw [if_pos (by omega), ht]
  rfl

theorem TL_icmp_gt {x y : Int32} {off : Int} (tgt : Nat) (hel : elk cd pc = some (.if_icmp .gt off, w)) (ht : (pc : Int) + off = (tgt : Int)) (h1 : y < x → Snd ex sc d (oc, maxL, rt, mc, ms, hs, cd) X cv (tgt, ls, t, hp σ, c, z)) (h2 : ¬ (y < x) → Snd ex sc d (oc, maxL, rt, mc, ms, hs, cd) Y cv (pc + 3, ls, t, hp σ, c, z)) : Snd ex sc d (oc, maxL, rt, mc, ms, hs, cd) (if y < x then X else Y) cv (pc, ls, .inl y :: .inl x :: t, hp σ, c, z) := by
  refine T_if (S1 := (tgt, ls, t, hp σ, c, z)) (S2 := (pc + 3, ls, t, hp σ, c, z)) ?_ h1 h2
  unfold stp
  dsimp only
  rw [hel]
  show ejmp pc off (fun q => ebr .gt x y (.inl (q, ls, t, hp σ, c, z)) (.inl (pc + 3, ls, t, hp σ, c, z))) = _
  unfold ejmp
  rw [if_pos (by omega), ht]
  rfl

theorem TL_if_gt {x : Int32} {off : Int} (tgt : Nat) (hel : elk cd pc = some (.ifCond .gt off, w)) (ht : (pc : Int) + off = (tgt : Int)) (h1 : 0 < x → Snd ex sc d (oc, maxL, rt, mc, ms, hs, cd) X cv (tgt, ls, t, hp σ, c, z)) (h2 : ¬ (0 < x) → Snd ex sc d (oc, maxL, rt, mc, ms, hs, cd) Y cv (pc + 3, ls, t, hp σ, c, z)) : Snd ex sc d (oc, maxL, rt, mc, ms, hs, cd) (if 0 < x then X else Y) cv (pc, ls, .inl x :: t, hp σ, c, z) := by
  refine T_if (S1 := (tgt, ls, t, hp σ, c, z)) (S2 := (pc + 3, ls, t, hp σ, c, z)) ?_ h1 h2
  unfold stp
  dsimp only
  rw [hel]
  show ejmp pc off (fun q => ebr .gt x 0 (.inl (q, ls, t, hp σ, c, z)) (.inl (pc + 3, ls, t, hp σ, c, z))) = _
  unfold ejmp
  rw [if_pos (by omega), ht]
  rfl

theorem TL_icmp_le {x y : Int32} {off : Int} (tgt : Nat) (hel : elk cd pc = some (.if_icmp .le off, w)) (ht : (pc : Int) + off = (tgt : Int)) (h1 : x ≤ y → Snd ex sc d (oc, maxL, rt, mc, ms, hs, cd) X cv (tgt, ls, t, hp σ, c, z)) (h2 : ¬ (x ≤ y) → Snd ex sc d (oc, maxL, rt, mc, ms, hs, cd) Y cv (pc + 3, ls, t, hp σ, c, z)) : Snd ex sc d (oc, maxL, rt, mc, ms, hs, cd) (if x ≤ y then X else Y) cv (pc, ls, .inl y :: .inl x :: t, hp σ, c, z) := by
  refine T_if (S1 := (tgt, ls, t, hp σ, c, z)) (S2 := (pc + 3, ls, t, hp σ, c, z)) ?_ h1 h2
  unfold stp
  dsimp only
  rw [hel]
  show ejmp pc off (fun q => ebr .le x y (.inl (q, ls, t, hp σ, c, z)) (.inl (pc + 3, ls, t, hp σ, c, z))) = _
  unfold ejmp
  rw [if_pos (by omega), ht]
  rfl

theorem TL_if_le {x : Int32} {off : Int} (tgt : Nat) (hel : elk cd pc = some (.ifCond .le off, w)) (ht : (pc : Int) + off = (tgt : Int)) (h1 : x ≤ 0 → Snd ex sc d (oc, maxL, rt, mc, ms, hs, cd) X cv (tgt, ls, t, hp σ, c, z)) (h2 : ¬ (x ≤ 0) → Snd ex sc d (oc, maxL, rt, mc, ms, hs, cd) Y cv (pc + 3, ls, t, hp σ, c, z)) : Snd ex sc d (oc, maxL, rt, mc, ms, hs, cd) (if x ≤ 0 then X else Y) cv (pc, ls, .inl x :: t, hp σ, c, z) := by
  refine T_if (S1 := (tgt, ls, t, hp σ, c, z)) (S2 := (pc + 3, ls, t, hp σ, c, z)) ?_ h1 h2
  unfold stp
  dsimp only
  rw [hel]
  show ejmp pc off (fun q => ebr .le x 0 (.inl (q, ls, t, hp σ, c, z)) (.inl (pc + 3, ls, t, hp σ, c, z))) = _
  unfold ejmp
  rw [if_pos (by omega), ht]
  rfl

theorem TL_cv {i : τ → Option eV} {y n f g r : Nat} {st as rest : List eV} {G : Option (τ × eMem)} {K : τ × eMem → Option ρ} (hel : elk cd pc = some (.invokevirtual idx, y, a2, n, a4, f, g)) (hr : st.drop n = .inr (.inr r) :: rest) (has : (st.take (n + 1)).reverse = as) (hc : c + f ≤ mc ∧ z + g ≤ ms ∧ ecats rest ≤ 8 ∧ n + 1 ≤ st.length) (hg : ∀ r2, G = some r2 → Ew ex d y as (hp σ) (cN i r2)) (hk : (KH r).1 = a4 → ∀ r2 : τ × eMem, Snd ex sc d (oc, maxL, rt, mc, ms, hs, cd) (K r2) cv (pc + 3, ls, (i r2.1).toList ++ rest, hp r2.2, c + f, z + g)) : Snd ex sc d (oc, maxL, rt, mc, ms, hs, cd) (if (KH r).1 = a4 then G.bind K else none) cv (pc, ls, st, hp σ, c, z) := by
  refine T_callc (as := as) (rest := rest) (c := c + f) (z := z + g) (w := 0) (vv := fun r2 => i r2.1) (hh := fun r2 => hp r2.2) ?_ hg hk
  unfold stp
  dsimp only
  rw [hel]
  show (match st.drop n with | .inr (.inr r) :: _ => (if (KH r).1 = a4 then ecall mc ms y (n + 1) f g pc ls st (hp σ) c z else estk) | _ => estk) = _
  rw [hr]
  dsimp only
  unfold ecall
  have hd : st.drop (n + 1) = rest := by rw [← List.tail_drop, hr]; rfl
  rw [hd, has, if_pos hc]

theorem TL_cs {i : τ → Option eV} {y n f g : Nat} {st as rest : List eV} {G : Option (τ × eMem)} {K : τ × eMem → Option ρ} (hel : elk cd pc = some (.invokestatic idx, y, a2, n, a4, f, g)) (ha2 : a2 < 2) (hr : st.drop n = rest) (has : (st.take n).reverse = as) (hc : c + f ≤ mc ∧ z + g ≤ ms ∧ ecats rest ≤ 8 ∧ n ≤ st.length) (hg : ∀ r2, G = some r2 → Ew ex d y as (hp σ) (cN i r2)) (hk : ∀ r2 : τ × eMem, Snd ex sc d (oc, maxL, rt, mc, ms, hs, cd) (K r2) cv (pc + 3, ls, (i r2.1).toList ++ rest, hp r2.2, c + f, z + g)) : Snd ex sc d (oc, maxL, rt, mc, ms, hs, cd) (G.bind K) cv (pc, ls, st, hp σ, c, z) := by
  refine T_call (as := as) (rest := rest) (c := c + f) (z := z + g) (w := 0) (vv := fun r2 => i r2.1) (hh := fun r2 => hp r2.2) ?_ hg hk
  unfold stp
  dsimp only
  rw [hel]
  have e : a2 = 0 ∨ a2 = 1 := by omega
  rcases e with e | e <;> subst e
  all_goals
    show ecall mc ms y n f g pc ls st (hp σ) c z = _
    unfold ecall
    rw [hr, has, if_pos hc]

theorem TL_sw (k : Int32) {x : Int32} {tgt : Nat} (h : stp ex sc (oc, maxL, rt, mc, ms, hs, cd) (pc, ls, .inl k :: t, hp σ, c, z) = .inl (tgt, ls, t, hp σ, c, z)) (h1 : x = k → Snd ex sc d (oc, maxL, rt, mc, ms, hs, cd) X cv (tgt, ls, t, hp σ, c, z)) (h2 : ¬ x = k → Snd ex sc d (oc, maxL, rt, mc, ms, hs, cd) Y cv (pc, ls, .inl x :: t, hp σ, c, z)) : Snd ex sc d (oc, maxL, rt, mc, ms, hs, cd) (if x = k then X else Y) cv (pc, ls, .inl x :: t, hp σ, c, z) := by
  by_cases q : x = k
  · rw [if_pos q]
    have h3 := h1 q
    clear h1 h2
    subst q
    refine T_go 1 ?_ h3
    unfold eGo
    rw [h]
    rfl
  · rw [if_neg q]
    exact h2 q

theorem TL_tso {x : Int32} {dflt lo hi : Int} {offs : Array Int} (tgt : Nat) (hel : elk cd pc = some (.tableswitch dflt lo hi offs, w)) (hx : x.toInt < lo ∨ hi < x.toInt) (ht : (pc : Int) + dflt = (tgt : Int)) (h1 : Snd ex sc d (oc, maxL, rt, mc, ms, hs, cd) X cv (tgt, ls, t, hp σ, c, z)) : Snd ex sc d (oc, maxL, rt, mc, ms, hs, cd) X cv (pc, ls, .inl x :: t, hp σ, c, z) := by
  refine T_go 1 ?_ h1
  unfold eGo stp
  dsimp only
  rw [hel]
  show (match (if x.toInt < lo ∨ hi < x.toInt then ejmp pc dflt (fun q => .inl (q, ls, t, hp σ, c, z)) else (match offs[(x.toInt - lo).toNat]? with
    | some o => ejmp pc o (fun q => .inl (q, ls, t, hp σ, c, z))
    | none => estk)) with | .inl s' => _ | o => o) = _
  rw [if_pos hx]
  unfold ejmp
  rw [if_pos (by omega), ht]
  rfl

theorem TL_iald {N : Nat} {xs : Nat → Int32} {i : Int32} (hel : elk cd pc = some (.iaload, w)) (H : eix i N = true → Snd ex (some (N, xs)) d (oc, maxL, rt, mc, ms, hs, cd) X cv (pc + 1, ls, .inl (xs i.toNatClampNeg) :: t, hp σ, c, z)) : Snd ex (some (N, xs)) d (oc, maxL, rt, mc, ms, hs, cd) (if eix i N = true then X else none) cv (pc, ls, .inl i :: .inr (.inr 1) :: t, hp σ, c, z) := by
  refine T_chk (S1 := (pc + 1, ls, .inl (xs i.toNatClampNeg) :: t, hp σ, c, z)) ?_ H
  unfold stp
  dsimp only
  rw [hel]
  rfl
end ERL

set_option maxRecDepth 20000 in
def f_law_0 (N : Nat) (xs : Nat → Int32) (rec : Int32 → eMem → Option (Int32 × eMem)) (x4 : Int32) (σ : eMem) : Option (Int32 × eMem) :=
  if eix (x4 + (1 : Int32)) N = true then
    if eix (x4 + (2 : Int32)) N = true then
      Option.bind (f_L_load 2 (xs (x4 + (1 : Int32)).toNatClampNeg) (xs (x4 + (2 : Int32)).toNatClampNeg) 161 σ) (fun r1 =>
        if eix (x4 + (1 : Int32)) N = true then
          if eix (x4 + (2 : Int32)) N = true then
            if (KH 122).1 = 10 then
              Option.bind (f_X12_load 122 (xs (x4 + (1 : Int32)).toNatClampNeg) (xs (x4 + (2 : Int32)).toNatClampNeg) r1.2) (fun r2 =>
                if (KH 122).1 = 10 then
                  Option.bind (f_X12_thrown 122 r2.2) (fun r3 =>
                    if r3.1 = r1.1 then
                      if ¬ r1.1 = (0 : Int32) then
                        rec (x4 + (5 : Int32)) r3.2
                      else
                        if (KH 161).1 = 12 ∧ eix (0 : Int32) (KH 161).2 = true then
                          if (lg_cmp (r3.2.2 161 (0 : Int32).toNatClampNeg) r2.1.toInt64) = (0 : Int32) then
                            rec (x4 + (5 : Int32)) r3.2
                          else
                            if eB (0 : Int32) = true then some ((0 : Int32), r3.2) else none
                        else none
                    else
                      if eB (0 : Int32) = true then some ((0 : Int32), r3.2) else none
                    )
                else none
                )
            else none
          else none
        else none
        )
    else none
  else none

set_option maxHeartbeats 40000000 in
set_option maxRecDepth 20000 in
theorem s_law_0 (N : Nat) (xs : Nat → Int32) (rec : Int32 → eMem → Option (Int32 × eMem)) (C Z : Nat) (ih : ∀ (x4 : Int32) (σ : eMem) (c z : Nat), c ≤ C → z ≤ Z → Snd false (some (N, xs)) 23 m_L_law (rec x4 σ) (cN iI) (23, [(4, .inl (x4)), (3, .inr (.inr (161))), (2, .inr (.inr (122))), (1, .inr (.inr (2))), (0, .inr (.inr (1)))], [], hp σ, c, z)) (x4 : Int32) (σ : eMem) (c z : Nat) (hc : c + 10 ≤ C) (hz : z + 100 ≤ Z) (hC : C ≤ 601024) (hZ : Z ≤ 7293034) : Snd false (some (N, xs)) 23 m_L_law (f_law_0 N xs rec x4 σ) (cN iI) (152, [(4, .inl (x4)), (3, .inr (.inr (161))), (2, .inr (.inr (122))), (1, .inr (.inr (2))), (0, .inr (.inr (1)))], [], hp σ, c, z) := by
  unfold f_law_0
  refine T_go (S' := (158, [(4, .inl (x4)), (3, .inr (.inr (161))), (2, .inr (.inr (122))), (1, .inr (.inr (2))), (0, .inr (.inr (1)))], [.inl ((x4 + (1 : Int32))), .inr (.inr (1)), .inr (.inr (2))], hp σ, c, z)) 5 rfl ?_
  refine TL_iald rfl (fun _ => ?_)
  refine T_go (S' := (164, [(4, .inl (x4)), (3, .inr (.inr (161))), (2, .inr (.inr (122))), (1, .inr (.inr (2))), (0, .inr (.inr (1)))], [.inl ((x4 + (2 : Int32))), .inr (.inr (1)), .inl ((xs (x4 + (1 : Int32)).toNatClampNeg)), .inr (.inr (2))], hp σ, c, z)) 4 rfl ?_
  refine TL_iald rfl (fun _ => ?_)
  refine T_go (S' := (166, [(4, .inl (x4)), (3, .inr (.inr (161))), (2, .inr (.inr (122))), (1, .inr (.inr (2))), (0, .inr (.inr (1)))], [.inr (.inr (161)), .inl ((xs (x4 + (2 : Int32)).toNatClampNeg)), .inl ((xs (x4 + (1 : Int32)).toNatClampNeg)), .inr (.inr (2))], hp σ, c, z)) 1 rfl ?_
  refine TL_cs (i := iI) (as := [.inr (.inr (2)), .inl ((xs (x4 + (1 : Int32)).toNatClampNeg)), .inl ((xs (x4 + (2 : Int32)).toNatClampNeg)), .inr (.inr (161))]) (rest := []) (st := [.inr (.inr (161)), .inl ((xs (x4 + (2 : Int32)).toNatClampNeg)), .inl ((xs (x4 + (1 : Int32)).toNatClampNeg)), .inr (.inr (2))]) rfl (lb rfl) rfl rfl ⟨by omega, by omega, lb rfl, lb rfl⟩ (fun _ h => Ew_le (lb rfl) (s_L_load 2 (xs (x4 + (1 : Int32)).toNatClampNeg) (xs (x4 + (2 : Int32)).toNatClampNeg) 161 σ _ h)) (fun r1 => ?_)
  show Snd false (some (N, xs)) _ _ _ (cN iI) (169, [(4, .inl (x4)), (3, .inr (.inr (161))), (2, .inr (.inr (122))), (1, .inr (.inr (2))), (0, .inr (.inr (1)))], [.inl (r1.1)], hp r1.2, c + 3, z + 18)
  refine T_go (S' := (177, [(5, .inl (r1.1)), (4, .inl (x4)), (3, .inr (.inr (161))), (2, .inr (.inr (122))), (1, .inr (.inr (2))), (0, .inr (.inr (1)))], [.inl ((x4 + (1 : Int32))), .inr (.inr (1)), .inr (.inr (122))], hp r1.2, c + 3, z + 18)) 6 rfl ?_
  refine TL_iald rfl (fun _ => ?_)
  refine T_go (S' := (183, [(5, .inl (r1.1)), (4, .inl (x4)), (3, .inr (.inr (161))), (2, .inr (.inr (122))), (1, .inr (.inr (2))), (0, .inr (.inr (1)))], [.inl ((x4 + (2 : Int32))), .inr (.inr (1)), .inl ((xs (x4 + (1 : Int32)).toNatClampNeg)), .inr (.inr (122))], hp r1.2, c + 3, z + 18)) 4 rfl ?_
  refine TL_iald rfl (fun _ => ?_)
  refine TL_cv (i := iI) (as := [.inr (.inr (122)), .inl ((xs (x4 + (1 : Int32)).toNatClampNeg)), .inl ((xs (x4 + (2 : Int32)).toNatClampNeg))]) (rest := []) (st := [.inl ((xs (x4 + (2 : Int32)).toNatClampNeg)), .inl ((xs (x4 + (1 : Int32)).toNatClampNeg)), .inr (.inr (122))]) rfl rfl rfl ⟨by omega, by omega, lb rfl, lb rfl⟩ (fun _ h => Ew_le (lb rfl) (s_X12_load 122 (xs (x4 + (1 : Int32)).toNatClampNeg) (xs (x4 + (2 : Int32)).toNatClampNeg) r1.2 _ h)) (fun _ r2 => ?_)
  show Snd false (some (N, xs)) _ _ _ (cN iI) (187, [(5, .inl (r1.1)), (4, .inl (x4)), (3, .inr (.inr (161))), (2, .inr (.inr (122))), (1, .inr (.inr (2))), (0, .inr (.inr (1)))], [.inl (r2.1)], hp r2.2, c + 3 + 0, z + 18 + 0)
  refine T_go (S' := (190, [(6, .inl (r2.1)), (5, .inl (r1.1)), (4, .inl (x4)), (3, .inr (.inr (161))), (2, .inr (.inr (122))), (1, .inr (.inr (2))), (0, .inr (.inr (1)))], [.inr (.inr (122))], hp r2.2, c + 3 + 0, z + 18 + 0)) 2 rfl ?_
  refine TL_cv (i := iI) (as := [.inr (.inr (122))]) (rest := []) (st := [.inr (.inr (122))]) rfl rfl rfl ⟨by omega, by omega, lb rfl, lb rfl⟩ (fun _ h => Ew_le (lb rfl) (s_X12_thrown 122 r2.2 _ h)) (fun _ r3 => ?_)
  show Snd false (some (N, xs)) _ _ _ (cN iI) (193, [(6, .inl (r2.1)), (5, .inl (r1.1)), (4, .inl (x4)), (3, .inr (.inr (161))), (2, .inr (.inr (122))), (1, .inr (.inr (2))), (0, .inr (.inr (1)))], [.inl (r3.1)], hp r3.2, c + 3 + 0 + 0, z + 18 + 0 + 0)
  refine T_go (S' := (195, [(6, .inl (r2.1)), (5, .inl (r1.1)), (4, .inl (x4)), (3, .inr (.inr (161))), (2, .inr (.inr (122))), (1, .inr (.inr (2))), (0, .inr (.inr (1)))], [.inl (r1.1), .inl (r3.1)], hp r3.2, c + 3 + 0 + 0, z + 18 + 0 + 0)) 1 rfl ?_
  refine TL_icmp_eq 200 rfl rfl (fun _ => ?_) (fun _ => ?_)
  · refine T_go (S' := (202, [(6, .inl (r2.1)), (5, .inl (r1.1)), (4, .inl (x4)), (3, .inr (.inr (161))), (2, .inr (.inr (122))), (1, .inr (.inr (2))), (0, .inr (.inr (1)))], [.inl (r1.1)], hp r3.2, c + 3 + 0 + 0, z + 18 + 0 + 0)) 1 rfl ?_
    refine TL_if_ne 217 rfl rfl (fun _ => ?_) (fun _ => ?_)
    · refine T_go (S' := (23, [(4, .inl ((x4 + (5 : Int32)))), (6, .inl (r2.1)), (5, .inl (r1.1)), (3, .inr (.inr (161))), (2, .inr (.inr (122))), (1, .inr (.inr (2))), (0, .inr (.inr (1)))], [], hp r3.2, c + 3 + 0 + 0, z + 18 + 0 + 0)) 3 rfl ?_
      refine T_loc (ls' := [(4, .inl ((x4 + (5 : Int32)))), (3, .inr (.inr (161))), (2, .inr (.inr (122))), (1, .inr (.inr (2))), (0, .inr (.inr (1)))]) [0, 3, 4, 5, 6] rfl ?_
      exact ih (x4 + (5 : Int32)) r3.2 (c + 3 + 0 + 0) (z + 18 + 0 + 0) (by omega) (by omega)
    · refine T_go (S' := (207, [(6, .inl (r2.1)), (5, .inl (r1.1)), (4, .inl (x4)), (3, .inr (.inr (161))), (2, .inr (.inr (122))), (1, .inr (.inr (2))), (0, .inr (.inr (1)))], [.inl ((0 : Int32)), .inr (.inr (161))], hp r3.2, c + 3 + 0 + 0, z + 18 + 0 + 0)) 2 rfl ?_
      refine TL_lald rfl (fun _ => ?_)
      refine T_go (S' := (212, [(6, .inl (r2.1)), (5, .inl (r1.1)), (4, .inl (x4)), (3, .inr (.inr (161))), (2, .inr (.inr (122))), (1, .inr (.inr (2))), (0, .inr (.inr (1)))], [.inl ((lg_cmp (r3.2.2 161 (0 : Int32).toNatClampNeg) r2.1.toInt64))], hp r3.2, c + 3 + 0 + 0, z + 18 + 0 + 0)) 3 rfl ?_
      refine TL_if_eq 217 rfl rfl (fun _ => ?_) (fun _ => ?_)
      · refine T_go (S' := (23, [(4, .inl ((x4 + (5 : Int32)))), (6, .inl (r2.1)), (5, .inl (r1.1)), (3, .inr (.inr (161))), (2, .inr (.inr (122))), (1, .inr (.inr (2))), (0, .inr (.inr (1)))], [], hp r3.2, c + 3 + 0 + 0, z + 18 + 0 + 0)) 3 rfl ?_
        refine T_loc (ls' := [(4, .inl ((x4 + (5 : Int32)))), (3, .inr (.inr (161))), (2, .inr (.inr (122))), (1, .inr (.inr (2))), (0, .inr (.inr (1)))]) [0, 3, 4, 5, 6] rfl ?_
        exact ih (x4 + (5 : Int32)) r3.2 (c + 3 + 0 + 0) (z + 18 + 0 + 0) (by omega) (by omega)
      · refine T_go (S' := (216, [(6, .inl (r2.1)), (5, .inl (r1.1)), (4, .inl (x4)), (3, .inr (.inr (161))), (2, .inr (.inr (122))), (1, .inr (.inr (2))), (0, .inr (.inr (1)))], [.inl ((0 : Int32))], hp r3.2, c + 3 + 0 + 0, z + 18 + 0 + 0)) 1 rfl ?_
        exact T_chkr rfl
  · refine T_go (S' := (199, [(6, .inl (r2.1)), (5, .inl (r1.1)), (4, .inl (x4)), (3, .inr (.inr (161))), (2, .inr (.inr (122))), (1, .inr (.inr (2))), (0, .inr (.inr (1)))], [.inl ((0 : Int32))], hp r3.2, c + 3 + 0 + 0, z + 18 + 0 + 0)) 1 rfl ?_
    exact T_chkr rfl

set_option maxRecDepth 20000 in
def f_law_1 (N : Nat) (xs : Nat → Int32) (rec : Int32 → eMem → Option (Int32 × eMem)) (x4 : Int32) (σ : eMem) : Option (Int32 × eMem) :=
  if eix (x4 + (1 : Int32)) N = true then
    if eix (x4 + (2 : Int32)) N = true then
      if eix (x4 + (3 : Int32)) N = true then
        Option.bind (f_L_store 2 (xs (x4 + (1 : Int32)).toNatClampNeg) (xs (x4 + (2 : Int32)).toNatClampNeg) (xs (x4 + (3 : Int32)).toNatClampNeg) 161 σ) (fun r4 =>
          if eix (x4 + (1 : Int32)) N = true then
            if eix (x4 + (2 : Int32)) N = true then
              if eix (x4 + (3 : Int32)) N = true then
                if (KH 122).1 = 10 then
                  Option.bind (f_X12_store 122 (xs (x4 + (1 : Int32)).toNatClampNeg) (xs (x4 + (2 : Int32)).toNatClampNeg) (xs (x4 + (3 : Int32)).toNatClampNeg) r4.2) (fun r5 =>
                    if (KH 122).1 = 10 then
                      Option.bind (f_X12_thrown 122 r5.2) (fun r6 =>
                        if r6.1 = r4.1 then
                          if ¬ r4.1 = (0 : Int32) then
                            rec (x4 + (5 : Int32)) r6.2
                          else
                            if (KH 161).1 = 12 ∧ eix (0 : Int32) (KH 161).2 = true then
                              if (lg_cmp (r6.2.2 161 (0 : Int32).toNatClampNeg) r5.1.toInt64) = (0 : Int32) then
                                rec (x4 + (5 : Int32)) r6.2
                              else
                                if eB (0 : Int32) = true then some ((0 : Int32), r6.2) else none
                            else none
                        else
                          if eB (0 : Int32) = true then some ((0 : Int32), r6.2) else none
                        )
                    else none
                    )
                else none
              else none
            else none
          else none
          )
      else none
    else none
  else none

set_option maxHeartbeats 40000000 in
set_option maxRecDepth 20000 in
theorem s_law_1 (N : Nat) (xs : Nat → Int32) (rec : Int32 → eMem → Option (Int32 × eMem)) (C Z : Nat) (ih : ∀ (x4 : Int32) (σ : eMem) (c z : Nat), c ≤ C → z ≤ Z → Snd false (some (N, xs)) 23 m_L_law (rec x4 σ) (cN iI) (23, [(4, .inl (x4)), (3, .inr (.inr (161))), (2, .inr (.inr (122))), (1, .inr (.inr (2))), (0, .inr (.inr (1)))], [], hp σ, c, z)) (x4 : Int32) (σ : eMem) (c z : Nat) (hc : c + 10 ≤ C) (hz : z + 100 ≤ Z) (hC : C ≤ 601024) (hZ : Z ≤ 7293034) : Snd false (some (N, xs)) 23 m_L_law (f_law_1 N xs rec x4 σ) (cN iI) (220, [(4, .inl (x4)), (3, .inr (.inr (161))), (2, .inr (.inr (122))), (1, .inr (.inr (2))), (0, .inr (.inr (1)))], [], hp σ, c, z) := by
  unfold f_law_1
  refine T_go (S' := (226, [(4, .inl (x4)), (3, .inr (.inr (161))), (2, .inr (.inr (122))), (1, .inr (.inr (2))), (0, .inr (.inr (1)))], [.inl ((x4 + (1 : Int32))), .inr (.inr (1)), .inr (.inr (2))], hp σ, c, z)) 5 rfl ?_
  refine TL_iald rfl (fun _ => ?_)
  refine T_go (S' := (232, [(4, .inl (x4)), (3, .inr (.inr (161))), (2, .inr (.inr (122))), (1, .inr (.inr (2))), (0, .inr (.inr (1)))], [.inl ((x4 + (2 : Int32))), .inr (.inr (1)), .inl ((xs (x4 + (1 : Int32)).toNatClampNeg)), .inr (.inr (2))], hp σ, c, z)) 4 rfl ?_
  refine TL_iald rfl (fun _ => ?_)
  refine T_go (S' := (238, [(4, .inl (x4)), (3, .inr (.inr (161))), (2, .inr (.inr (122))), (1, .inr (.inr (2))), (0, .inr (.inr (1)))], [.inl ((x4 + (3 : Int32))), .inr (.inr (1)), .inl ((xs (x4 + (2 : Int32)).toNatClampNeg)), .inl ((xs (x4 + (1 : Int32)).toNatClampNeg)), .inr (.inr (2))], hp σ, c, z)) 4 rfl ?_
  refine TL_iald rfl (fun _ => ?_)
  refine T_go (S' := (240, [(4, .inl (x4)), (3, .inr (.inr (161))), (2, .inr (.inr (122))), (1, .inr (.inr (2))), (0, .inr (.inr (1)))], [.inr (.inr (161)), .inl ((xs (x4 + (3 : Int32)).toNatClampNeg)), .inl ((xs (x4 + (2 : Int32)).toNatClampNeg)), .inl ((xs (x4 + (1 : Int32)).toNatClampNeg)), .inr (.inr (2))], hp σ, c, z)) 1 rfl ?_
  refine TL_cs (i := iI) (as := [.inr (.inr (2)), .inl ((xs (x4 + (1 : Int32)).toNatClampNeg)), .inl ((xs (x4 + (2 : Int32)).toNatClampNeg)), .inl ((xs (x4 + (3 : Int32)).toNatClampNeg)), .inr (.inr (161))]) (rest := []) (st := [.inr (.inr (161)), .inl ((xs (x4 + (3 : Int32)).toNatClampNeg)), .inl ((xs (x4 + (2 : Int32)).toNatClampNeg)), .inl ((xs (x4 + (1 : Int32)).toNatClampNeg)), .inr (.inr (2))]) rfl (lb rfl) rfl rfl ⟨by omega, by omega, lb rfl, lb rfl⟩ (fun _ h => Ew_le (lb rfl) (s_L_store 2 (xs (x4 + (1 : Int32)).toNatClampNeg) (xs (x4 + (2 : Int32)).toNatClampNeg) (xs (x4 + (3 : Int32)).toNatClampNeg) 161 σ _ h)) (fun r4 => ?_)
  show Snd false (some (N, xs)) _ _ _ (cN iI) (243, [(4, .inl (x4)), (3, .inr (.inr (161))), (2, .inr (.inr (122))), (1, .inr (.inr (2))), (0, .inr (.inr (1)))], [.inl (r4.1)], hp r4.2, c + 4, z + 24)
  refine T_go (S' := (251, [(5, .inl (r4.1)), (4, .inl (x4)), (3, .inr (.inr (161))), (2, .inr (.inr (122))), (1, .inr (.inr (2))), (0, .inr (.inr (1)))], [.inl ((x4 + (1 : Int32))), .inr (.inr (1)), .inr (.inr (122))], hp r4.2, c + 4, z + 24)) 6 rfl ?_
  refine TL_iald rfl (fun _ => ?_)
  refine T_go (S' := (257, [(5, .inl (r4.1)), (4, .inl (x4)), (3, .inr (.inr (161))), (2, .inr (.inr (122))), (1, .inr (.inr (2))), (0, .inr (.inr (1)))], [.inl ((x4 + (2 : Int32))), .inr (.inr (1)), .inl ((xs (x4 + (1 : Int32)).toNatClampNeg)), .inr (.inr (122))], hp r4.2, c + 4, z + 24)) 4 rfl ?_
  refine TL_iald rfl (fun _ => ?_)
  refine T_go (S' := (263, [(5, .inl (r4.1)), (4, .inl (x4)), (3, .inr (.inr (161))), (2, .inr (.inr (122))), (1, .inr (.inr (2))), (0, .inr (.inr (1)))], [.inl ((x4 + (3 : Int32))), .inr (.inr (1)), .inl ((xs (x4 + (2 : Int32)).toNatClampNeg)), .inl ((xs (x4 + (1 : Int32)).toNatClampNeg)), .inr (.inr (122))], hp r4.2, c + 4, z + 24)) 4 rfl ?_
  refine TL_iald rfl (fun _ => ?_)
  refine TL_cv (i := iI) (as := [.inr (.inr (122)), .inl ((xs (x4 + (1 : Int32)).toNatClampNeg)), .inl ((xs (x4 + (2 : Int32)).toNatClampNeg)), .inl ((xs (x4 + (3 : Int32)).toNatClampNeg))]) (rest := []) (st := [.inl ((xs (x4 + (3 : Int32)).toNatClampNeg)), .inl ((xs (x4 + (2 : Int32)).toNatClampNeg)), .inl ((xs (x4 + (1 : Int32)).toNatClampNeg)), .inr (.inr (122))]) rfl rfl rfl ⟨by omega, by omega, lb rfl, lb rfl⟩ (fun _ h => Ew_le (lb rfl) (s_X12_store 122 (xs (x4 + (1 : Int32)).toNatClampNeg) (xs (x4 + (2 : Int32)).toNatClampNeg) (xs (x4 + (3 : Int32)).toNatClampNeg) r4.2 _ h)) (fun _ r5 => ?_)
  show Snd false (some (N, xs)) _ _ _ (cN iI) (267, [(5, .inl (r4.1)), (4, .inl (x4)), (3, .inr (.inr (161))), (2, .inr (.inr (122))), (1, .inr (.inr (2))), (0, .inr (.inr (1)))], [.inl (r5.1)], hp r5.2, c + 4 + 0, z + 24 + 0)
  refine T_go (S' := (270, [(6, .inl (r5.1)), (5, .inl (r4.1)), (4, .inl (x4)), (3, .inr (.inr (161))), (2, .inr (.inr (122))), (1, .inr (.inr (2))), (0, .inr (.inr (1)))], [.inr (.inr (122))], hp r5.2, c + 4 + 0, z + 24 + 0)) 2 rfl ?_
  refine TL_cv (i := iI) (as := [.inr (.inr (122))]) (rest := []) (st := [.inr (.inr (122))]) rfl rfl rfl ⟨by omega, by omega, lb rfl, lb rfl⟩ (fun _ h => Ew_le (lb rfl) (s_X12_thrown 122 r5.2 _ h)) (fun _ r6 => ?_)
  show Snd false (some (N, xs)) _ _ _ (cN iI) (273, [(6, .inl (r5.1)), (5, .inl (r4.1)), (4, .inl (x4)), (3, .inr (.inr (161))), (2, .inr (.inr (122))), (1, .inr (.inr (2))), (0, .inr (.inr (1)))], [.inl (r6.1)], hp r6.2, c + 4 + 0 + 0, z + 24 + 0 + 0)
  refine T_go (S' := (275, [(6, .inl (r5.1)), (5, .inl (r4.1)), (4, .inl (x4)), (3, .inr (.inr (161))), (2, .inr (.inr (122))), (1, .inr (.inr (2))), (0, .inr (.inr (1)))], [.inl (r4.1), .inl (r6.1)], hp r6.2, c + 4 + 0 + 0, z + 24 + 0 + 0)) 1 rfl ?_
  refine TL_icmp_eq 280 rfl rfl (fun _ => ?_) (fun _ => ?_)
  · refine T_go (S' := (282, [(6, .inl (r5.1)), (5, .inl (r4.1)), (4, .inl (x4)), (3, .inr (.inr (161))), (2, .inr (.inr (122))), (1, .inr (.inr (2))), (0, .inr (.inr (1)))], [.inl (r4.1)], hp r6.2, c + 4 + 0 + 0, z + 24 + 0 + 0)) 1 rfl ?_
    refine TL_if_ne 297 rfl rfl (fun _ => ?_) (fun _ => ?_)
    · refine T_go (S' := (23, [(4, .inl ((x4 + (5 : Int32)))), (6, .inl (r5.1)), (5, .inl (r4.1)), (3, .inr (.inr (161))), (2, .inr (.inr (122))), (1, .inr (.inr (2))), (0, .inr (.inr (1)))], [], hp r6.2, c + 4 + 0 + 0, z + 24 + 0 + 0)) 3 rfl ?_
      refine T_loc (ls' := [(4, .inl ((x4 + (5 : Int32)))), (3, .inr (.inr (161))), (2, .inr (.inr (122))), (1, .inr (.inr (2))), (0, .inr (.inr (1)))]) [0, 3, 4, 5, 6] rfl ?_
      exact ih (x4 + (5 : Int32)) r6.2 (c + 4 + 0 + 0) (z + 24 + 0 + 0) (by omega) (by omega)
    · refine T_go (S' := (287, [(6, .inl (r5.1)), (5, .inl (r4.1)), (4, .inl (x4)), (3, .inr (.inr (161))), (2, .inr (.inr (122))), (1, .inr (.inr (2))), (0, .inr (.inr (1)))], [.inl ((0 : Int32)), .inr (.inr (161))], hp r6.2, c + 4 + 0 + 0, z + 24 + 0 + 0)) 2 rfl ?_
      refine TL_lald rfl (fun _ => ?_)
      refine T_go (S' := (292, [(6, .inl (r5.1)), (5, .inl (r4.1)), (4, .inl (x4)), (3, .inr (.inr (161))), (2, .inr (.inr (122))), (1, .inr (.inr (2))), (0, .inr (.inr (1)))], [.inl ((lg_cmp (r6.2.2 161 (0 : Int32).toNatClampNeg) r5.1.toInt64))], hp r6.2, c + 4 + 0 + 0, z + 24 + 0 + 0)) 3 rfl ?_
      refine TL_if_eq 297 rfl rfl (fun _ => ?_) (fun _ => ?_)
      · refine T_go (S' := (23, [(4, .inl ((x4 + (5 : Int32)))), (6, .inl (r5.1)), (5, .inl (r4.1)), (3, .inr (.inr (161))), (2, .inr (.inr (122))), (1, .inr (.inr (2))), (0, .inr (.inr (1)))], [], hp r6.2, c + 4 + 0 + 0, z + 24 + 0 + 0)) 3 rfl ?_
        refine T_loc (ls' := [(4, .inl ((x4 + (5 : Int32)))), (3, .inr (.inr (161))), (2, .inr (.inr (122))), (1, .inr (.inr (2))), (0, .inr (.inr (1)))]) [0, 3, 4, 5, 6] rfl ?_
        exact ih (x4 + (5 : Int32)) r6.2 (c + 4 + 0 + 0) (z + 24 + 0 + 0) (by omega) (by omega)
      · refine T_go (S' := (296, [(6, .inl (r5.1)), (5, .inl (r4.1)), (4, .inl (x4)), (3, .inr (.inr (161))), (2, .inr (.inr (122))), (1, .inr (.inr (2))), (0, .inr (.inr (1)))], [.inl ((0 : Int32))], hp r6.2, c + 4 + 0 + 0, z + 24 + 0 + 0)) 1 rfl ?_
        exact T_chkr rfl
  · refine T_go (S' := (279, [(6, .inl (r5.1)), (5, .inl (r4.1)), (4, .inl (x4)), (3, .inr (.inr (161))), (2, .inr (.inr (122))), (1, .inr (.inr (2))), (0, .inr (.inr (1)))], [.inl ((0 : Int32))], hp r6.2, c + 4 + 0 + 0, z + 24 + 0 + 0)) 1 rfl ?_
    exact T_chkr rfl

set_option maxRecDepth 20000 in
def f_law_2 (N : Nat) (xs : Nat → Int32) (rec : Int32 → eMem → Option (Int32 × eMem)) (x4 : Int32) (σ : eMem) : Option (Int32 × eMem) :=
  if eix (x4 + (1 : Int32)) N = true then
    Option.bind (f_L_drain 2 (xs (x4 + (1 : Int32)).toNatClampNeg) 161 σ) (fun r7 =>
      if eix (x4 + (1 : Int32)) N = true then
        if (KH 122).1 = 10 then
          Option.bind (f_X12_drain 122 (xs (x4 + (1 : Int32)).toNatClampNeg) r7.2) (fun r8 =>
            if (KH 122).1 = 10 then
              Option.bind (f_X12_thrown 122 r8.2) (fun r9 =>
                if r9.1 = r7.1 then
                  if ¬ r7.1 = (0 : Int32) then
                    rec (x4 + (5 : Int32)) r9.2
                  else
                    if (KH 161).1 = 12 ∧ eix (0 : Int32) (KH 161).2 = true then
                      if r8.1 = (0 : Int32) then
                        if (lg_cmp (r9.2.2 161 (0 : Int32).toNatClampNeg) (0 : Int64)) = (0 : Int32) then
                          rec (x4 + (5 : Int32)) r9.2
                        else
                          if eB (0 : Int32) = true then some ((0 : Int32), r9.2) else none
                      else
                        if (lg_cmp (r9.2.2 161 (0 : Int32).toNatClampNeg) (1 : Int64)) = (0 : Int32) then
                          rec (x4 + (5 : Int32)) r9.2
                        else
                          if eB (0 : Int32) = true then some ((0 : Int32), r9.2) else none
                    else none
                else
                  if eB (0 : Int32) = true then some ((0 : Int32), r9.2) else none
                )
            else none
            )
        else none
      else none
      )
  else none

set_option maxHeartbeats 40000000 in
set_option maxRecDepth 20000 in
theorem s_law_2 (N : Nat) (xs : Nat → Int32) (rec : Int32 → eMem → Option (Int32 × eMem)) (C Z : Nat) (ih : ∀ (x4 : Int32) (σ : eMem) (c z : Nat), c ≤ C → z ≤ Z → Snd false (some (N, xs)) 23 m_L_law (rec x4 σ) (cN iI) (23, [(4, .inl (x4)), (3, .inr (.inr (161))), (2, .inr (.inr (122))), (1, .inr (.inr (2))), (0, .inr (.inr (1)))], [], hp σ, c, z)) (x4 : Int32) (σ : eMem) (c z : Nat) (hc : c + 10 ≤ C) (hz : z + 100 ≤ Z) (hC : C ≤ 601024) (hZ : Z ≤ 7293034) : Snd false (some (N, xs)) 23 m_L_law (f_law_2 N xs rec x4 σ) (cN iI) (300, [(4, .inl (x4)), (3, .inr (.inr (161))), (2, .inr (.inr (122))), (1, .inr (.inr (2))), (0, .inr (.inr (1)))], [], hp σ, c, z) := by
  unfold f_law_2
  refine T_go (S' := (306, [(4, .inl (x4)), (3, .inr (.inr (161))), (2, .inr (.inr (122))), (1, .inr (.inr (2))), (0, .inr (.inr (1)))], [.inl ((x4 + (1 : Int32))), .inr (.inr (1)), .inr (.inr (2))], hp σ, c, z)) 5 rfl ?_
  refine TL_iald rfl (fun _ => ?_)
  refine T_go (S' := (308, [(4, .inl (x4)), (3, .inr (.inr (161))), (2, .inr (.inr (122))), (1, .inr (.inr (2))), (0, .inr (.inr (1)))], [.inr (.inr (161)), .inl ((xs (x4 + (1 : Int32)).toNatClampNeg)), .inr (.inr (2))], hp σ, c, z)) 1 rfl ?_
  refine TL_cs (i := iI) (as := [.inr (.inr (2)), .inl ((xs (x4 + (1 : Int32)).toNatClampNeg)), .inr (.inr (161))]) (rest := []) (st := [.inr (.inr (161)), .inl ((xs (x4 + (1 : Int32)).toNatClampNeg)), .inr (.inr (2))]) rfl (lb rfl) rfl rfl ⟨by omega, by omega, lb rfl, lb rfl⟩ (fun _ h => Ew_le (lb rfl) (s_L_drain 2 (xs (x4 + (1 : Int32)).toNatClampNeg) 161 σ _ h)) (fun r7 => ?_)
  show Snd false (some (N, xs)) _ _ _ (cN iI) (311, [(4, .inl (x4)), (3, .inr (.inr (161))), (2, .inr (.inr (122))), (1, .inr (.inr (2))), (0, .inr (.inr (1)))], [.inl (r7.1)], hp r7.2, c + 1, z + 6)
  refine T_go (S' := (319, [(5, .inl (r7.1)), (4, .inl (x4)), (3, .inr (.inr (161))), (2, .inr (.inr (122))), (1, .inr (.inr (2))), (0, .inr (.inr (1)))], [.inl ((x4 + (1 : Int32))), .inr (.inr (1)), .inr (.inr (122))], hp r7.2, c + 1, z + 6)) 6 rfl ?_
  refine TL_iald rfl (fun _ => ?_)
  refine TL_cv (i := iI) (as := [.inr (.inr (122)), .inl ((xs (x4 + (1 : Int32)).toNatClampNeg))]) (rest := []) (st := [.inl ((xs (x4 + (1 : Int32)).toNatClampNeg)), .inr (.inr (122))]) rfl rfl rfl ⟨by omega, by omega, lb rfl, lb rfl⟩ (fun _ h => Ew_le (lb rfl) (s_X12_drain 122 (xs (x4 + (1 : Int32)).toNatClampNeg) r7.2 _ h)) (fun _ r8 => ?_)
  show Snd false (some (N, xs)) _ _ _ (cN iI) (323, [(5, .inl (r7.1)), (4, .inl (x4)), (3, .inr (.inr (161))), (2, .inr (.inr (122))), (1, .inr (.inr (2))), (0, .inr (.inr (1)))], [.inl (r8.1)], hp r8.2, c + 1 + 0, z + 6 + 0)
  refine T_go (S' := (326, [(6, .inl (r8.1)), (5, .inl (r7.1)), (4, .inl (x4)), (3, .inr (.inr (161))), (2, .inr (.inr (122))), (1, .inr (.inr (2))), (0, .inr (.inr (1)))], [.inr (.inr (122))], hp r8.2, c + 1 + 0, z + 6 + 0)) 2 rfl ?_
  refine TL_cv (i := iI) (as := [.inr (.inr (122))]) (rest := []) (st := [.inr (.inr (122))]) rfl rfl rfl ⟨by omega, by omega, lb rfl, lb rfl⟩ (fun _ h => Ew_le (lb rfl) (s_X12_thrown 122 r8.2 _ h)) (fun _ r9 => ?_)
  show Snd false (some (N, xs)) _ _ _ (cN iI) (329, [(6, .inl (r8.1)), (5, .inl (r7.1)), (4, .inl (x4)), (3, .inr (.inr (161))), (2, .inr (.inr (122))), (1, .inr (.inr (2))), (0, .inr (.inr (1)))], [.inl (r9.1)], hp r9.2, c + 1 + 0 + 0, z + 6 + 0 + 0)
  refine T_go (S' := (331, [(6, .inl (r8.1)), (5, .inl (r7.1)), (4, .inl (x4)), (3, .inr (.inr (161))), (2, .inr (.inr (122))), (1, .inr (.inr (2))), (0, .inr (.inr (1)))], [.inl (r7.1), .inl (r9.1)], hp r9.2, c + 1 + 0 + 0, z + 6 + 0 + 0)) 1 rfl ?_
  refine TL_icmp_eq 336 rfl rfl (fun _ => ?_) (fun _ => ?_)
  · refine T_go (S' := (338, [(6, .inl (r8.1)), (5, .inl (r7.1)), (4, .inl (x4)), (3, .inr (.inr (161))), (2, .inr (.inr (122))), (1, .inr (.inr (2))), (0, .inr (.inr (1)))], [.inl (r7.1)], hp r9.2, c + 1 + 0 + 0, z + 6 + 0 + 0)) 1 rfl ?_
    refine TL_if_ne 360 rfl rfl (fun _ => ?_) (fun _ => ?_)
    · refine T_go (S' := (23, [(4, .inl ((x4 + (5 : Int32)))), (6, .inl (r8.1)), (5, .inl (r7.1)), (3, .inr (.inr (161))), (2, .inr (.inr (122))), (1, .inr (.inr (2))), (0, .inr (.inr (1)))], [], hp r9.2, c + 1 + 0 + 0, z + 6 + 0 + 0)) 3 rfl ?_
      refine T_loc (ls' := [(4, .inl ((x4 + (5 : Int32)))), (3, .inr (.inr (161))), (2, .inr (.inr (122))), (1, .inr (.inr (2))), (0, .inr (.inr (1)))]) [0, 3, 4, 5, 6] rfl ?_
      exact ih (x4 + (5 : Int32)) r9.2 (c + 1 + 0 + 0) (z + 6 + 0 + 0) (by omega) (by omega)
    · refine T_go (S' := (343, [(6, .inl (r8.1)), (5, .inl (r7.1)), (4, .inl (x4)), (3, .inr (.inr (161))), (2, .inr (.inr (122))), (1, .inr (.inr (2))), (0, .inr (.inr (1)))], [.inl ((0 : Int32)), .inr (.inr (161))], hp r9.2, c + 1 + 0 + 0, z + 6 + 0 + 0)) 2 rfl ?_
      refine TL_lald rfl (fun _ => ?_)
      refine T_go (S' := (346, [(6, .inl (r8.1)), (5, .inl (r7.1)), (4, .inl (x4)), (3, .inr (.inr (161))), (2, .inr (.inr (122))), (1, .inr (.inr (2))), (0, .inr (.inr (1)))], [.inl (r8.1), .inr (.inl ((r9.2.2 161 (0 : Int32).toNatClampNeg)))], hp r9.2, c + 1 + 0 + 0, z + 6 + 0 + 0)) 1 rfl ?_
      refine TL_if_eq 353 rfl rfl (fun _ => ?_) (fun _ => ?_)
      · refine T_go (S' := (355, [(6, .inl (r8.1)), (5, .inl (r7.1)), (4, .inl (x4)), (3, .inr (.inr (161))), (2, .inr (.inr (122))), (1, .inr (.inr (2))), (0, .inr (.inr (1)))], [.inl ((lg_cmp (r9.2.2 161 (0 : Int32).toNatClampNeg) (0 : Int64)))], hp r9.2, c + 1 + 0 + 0, z + 6 + 0 + 0)) 2 rfl ?_
        refine TL_if_eq 360 rfl rfl (fun _ => ?_) (fun _ => ?_)
        · refine T_go (S' := (23, [(4, .inl ((x4 + (5 : Int32)))), (6, .inl (r8.1)), (5, .inl (r7.1)), (3, .inr (.inr (161))), (2, .inr (.inr (122))), (1, .inr (.inr (2))), (0, .inr (.inr (1)))], [], hp r9.2, c + 1 + 0 + 0, z + 6 + 0 + 0)) 3 rfl ?_
          refine T_loc (ls' := [(4, .inl ((x4 + (5 : Int32)))), (3, .inr (.inr (161))), (2, .inr (.inr (122))), (1, .inr (.inr (2))), (0, .inr (.inr (1)))]) [0, 3, 4, 5, 6] rfl ?_
          exact ih (x4 + (5 : Int32)) r9.2 (c + 1 + 0 + 0) (z + 6 + 0 + 0) (by omega) (by omega)
        · refine T_go (S' := (359, [(6, .inl (r8.1)), (5, .inl (r7.1)), (4, .inl (x4)), (3, .inr (.inr (161))), (2, .inr (.inr (122))), (1, .inr (.inr (2))), (0, .inr (.inr (1)))], [.inl ((0 : Int32))], hp r9.2, c + 1 + 0 + 0, z + 6 + 0 + 0)) 1 rfl ?_
          exact T_chkr rfl
      · refine T_go (S' := (355, [(6, .inl (r8.1)), (5, .inl (r7.1)), (4, .inl (x4)), (3, .inr (.inr (161))), (2, .inr (.inr (122))), (1, .inr (.inr (2))), (0, .inr (.inr (1)))], [.inl ((lg_cmp (r9.2.2 161 (0 : Int32).toNatClampNeg) (1 : Int64)))], hp r9.2, c + 1 + 0 + 0, z + 6 + 0 + 0)) 3 rfl ?_
        refine TL_if_eq 360 rfl rfl (fun _ => ?_) (fun _ => ?_)
        · refine T_go (S' := (23, [(4, .inl ((x4 + (5 : Int32)))), (6, .inl (r8.1)), (5, .inl (r7.1)), (3, .inr (.inr (161))), (2, .inr (.inr (122))), (1, .inr (.inr (2))), (0, .inr (.inr (1)))], [], hp r9.2, c + 1 + 0 + 0, z + 6 + 0 + 0)) 3 rfl ?_
          refine T_loc (ls' := [(4, .inl ((x4 + (5 : Int32)))), (3, .inr (.inr (161))), (2, .inr (.inr (122))), (1, .inr (.inr (2))), (0, .inr (.inr (1)))]) [0, 3, 4, 5, 6] rfl ?_
          exact ih (x4 + (5 : Int32)) r9.2 (c + 1 + 0 + 0) (z + 6 + 0 + 0) (by omega) (by omega)
        · refine T_go (S' := (359, [(6, .inl (r8.1)), (5, .inl (r7.1)), (4, .inl (x4)), (3, .inr (.inr (161))), (2, .inr (.inr (122))), (1, .inr (.inr (2))), (0, .inr (.inr (1)))], [.inl ((0 : Int32))], hp r9.2, c + 1 + 0 + 0, z + 6 + 0 + 0)) 1 rfl ?_
          exact T_chkr rfl
  · refine T_go (S' := (335, [(6, .inl (r8.1)), (5, .inl (r7.1)), (4, .inl (x4)), (3, .inr (.inr (161))), (2, .inr (.inr (122))), (1, .inr (.inr (2))), (0, .inr (.inr (1)))], [.inl ((0 : Int32))], hp r9.2, c + 1 + 0 + 0, z + 6 + 0 + 0)) 1 rfl ?_
    exact T_chkr rfl

set_option maxRecDepth 20000 in
def f_law_3 (N : Nat) (xs : Nat → Int32) (rec : Int32 → eMem → Option (Int32 × eMem)) (x4 : Int32) (σ : eMem) : Option (Int32 × eMem) :=
  if eix (x4 + (1 : Int32)) N = true then
    Option.bind (f_L_fence 2 (xs (x4 + (1 : Int32)).toNatClampNeg) 161 σ) (fun r10 =>
      if eix (x4 + (1 : Int32)) N = true then
        if (KH 122).1 = 10 then
          Option.bind (f_X12_fence 122 (xs (x4 + (1 : Int32)).toNatClampNeg) r10.2) (fun r11 =>
            if (KH 122).1 = 10 then
              Option.bind (f_X12_thrown 122 r11.2) (fun r12 =>
                if r12.1 = r10.1 then
                  if ¬ r10.1 = (0 : Int32) then
                    rec (x4 + (5 : Int32)) r12.2
                  else
                    if (KH 161).1 = 12 ∧ eix (0 : Int32) (KH 161).2 = true then
                      if r11.1 = (0 : Int32) then
                        if (lg_cmp (r12.2.2 161 (0 : Int32).toNatClampNeg) (0 : Int64)) = (0 : Int32) then
                          rec (x4 + (5 : Int32)) r12.2
                        else
                          if eB (0 : Int32) = true then some ((0 : Int32), r12.2) else none
                      else
                        if (lg_cmp (r12.2.2 161 (0 : Int32).toNatClampNeg) (1 : Int64)) = (0 : Int32) then
                          rec (x4 + (5 : Int32)) r12.2
                        else
                          if eB (0 : Int32) = true then some ((0 : Int32), r12.2) else none
                    else none
                else
                  if eB (0 : Int32) = true then some ((0 : Int32), r12.2) else none
                )
            else none
            )
        else none
      else none
      )
  else none

set_option maxHeartbeats 40000000 in
set_option maxRecDepth 20000 in
theorem s_law_3 (N : Nat) (xs : Nat → Int32) (rec : Int32 → eMem → Option (Int32 × eMem)) (C Z : Nat) (ih : ∀ (x4 : Int32) (σ : eMem) (c z : Nat), c ≤ C → z ≤ Z → Snd false (some (N, xs)) 23 m_L_law (rec x4 σ) (cN iI) (23, [(4, .inl (x4)), (3, .inr (.inr (161))), (2, .inr (.inr (122))), (1, .inr (.inr (2))), (0, .inr (.inr (1)))], [], hp σ, c, z)) (x4 : Int32) (σ : eMem) (c z : Nat) (hc : c + 10 ≤ C) (hz : z + 100 ≤ Z) (hC : C ≤ 601024) (hZ : Z ≤ 7293034) : Snd false (some (N, xs)) 23 m_L_law (f_law_3 N xs rec x4 σ) (cN iI) (363, [(4, .inl (x4)), (3, .inr (.inr (161))), (2, .inr (.inr (122))), (1, .inr (.inr (2))), (0, .inr (.inr (1)))], [], hp σ, c, z) := by
  unfold f_law_3
  refine T_go (S' := (369, [(4, .inl (x4)), (3, .inr (.inr (161))), (2, .inr (.inr (122))), (1, .inr (.inr (2))), (0, .inr (.inr (1)))], [.inl ((x4 + (1 : Int32))), .inr (.inr (1)), .inr (.inr (2))], hp σ, c, z)) 5 rfl ?_
  refine TL_iald rfl (fun _ => ?_)
  refine T_go (S' := (371, [(4, .inl (x4)), (3, .inr (.inr (161))), (2, .inr (.inr (122))), (1, .inr (.inr (2))), (0, .inr (.inr (1)))], [.inr (.inr (161)), .inl ((xs (x4 + (1 : Int32)).toNatClampNeg)), .inr (.inr (2))], hp σ, c, z)) 1 rfl ?_
  refine TL_cs (i := iI) (as := [.inr (.inr (2)), .inl ((xs (x4 + (1 : Int32)).toNatClampNeg)), .inr (.inr (161))]) (rest := []) (st := [.inr (.inr (161)), .inl ((xs (x4 + (1 : Int32)).toNatClampNeg)), .inr (.inr (2))]) rfl (lb rfl) rfl rfl ⟨by omega, by omega, lb rfl, lb rfl⟩ (fun _ h => Ew_le (lb rfl) (s_L_fence 2 (xs (x4 + (1 : Int32)).toNatClampNeg) 161 σ _ h)) (fun r10 => ?_)
  show Snd false (some (N, xs)) _ _ _ (cN iI) (374, [(4, .inl (x4)), (3, .inr (.inr (161))), (2, .inr (.inr (122))), (1, .inr (.inr (2))), (0, .inr (.inr (1)))], [.inl (r10.1)], hp r10.2, c + 1, z + 6)
  refine T_go (S' := (382, [(5, .inl (r10.1)), (4, .inl (x4)), (3, .inr (.inr (161))), (2, .inr (.inr (122))), (1, .inr (.inr (2))), (0, .inr (.inr (1)))], [.inl ((x4 + (1 : Int32))), .inr (.inr (1)), .inr (.inr (122))], hp r10.2, c + 1, z + 6)) 6 rfl ?_
  refine TL_iald rfl (fun _ => ?_)
  refine TL_cv (i := iI) (as := [.inr (.inr (122)), .inl ((xs (x4 + (1 : Int32)).toNatClampNeg))]) (rest := []) (st := [.inl ((xs (x4 + (1 : Int32)).toNatClampNeg)), .inr (.inr (122))]) rfl rfl rfl ⟨by omega, by omega, lb rfl, lb rfl⟩ (fun _ h => Ew_le (lb rfl) (s_X12_fence 122 (xs (x4 + (1 : Int32)).toNatClampNeg) r10.2 _ h)) (fun _ r11 => ?_)
  show Snd false (some (N, xs)) _ _ _ (cN iI) (386, [(5, .inl (r10.1)), (4, .inl (x4)), (3, .inr (.inr (161))), (2, .inr (.inr (122))), (1, .inr (.inr (2))), (0, .inr (.inr (1)))], [.inl (r11.1)], hp r11.2, c + 1 + 0, z + 6 + 0)
  refine T_go (S' := (389, [(6, .inl (r11.1)), (5, .inl (r10.1)), (4, .inl (x4)), (3, .inr (.inr (161))), (2, .inr (.inr (122))), (1, .inr (.inr (2))), (0, .inr (.inr (1)))], [.inr (.inr (122))], hp r11.2, c + 1 + 0, z + 6 + 0)) 2 rfl ?_
  refine TL_cv (i := iI) (as := [.inr (.inr (122))]) (rest := []) (st := [.inr (.inr (122))]) rfl rfl rfl ⟨by omega, by omega, lb rfl, lb rfl⟩ (fun _ h => Ew_le (lb rfl) (s_X12_thrown 122 r11.2 _ h)) (fun _ r12 => ?_)
  show Snd false (some (N, xs)) _ _ _ (cN iI) (392, [(6, .inl (r11.1)), (5, .inl (r10.1)), (4, .inl (x4)), (3, .inr (.inr (161))), (2, .inr (.inr (122))), (1, .inr (.inr (2))), (0, .inr (.inr (1)))], [.inl (r12.1)], hp r12.2, c + 1 + 0 + 0, z + 6 + 0 + 0)
  refine T_go (S' := (394, [(6, .inl (r11.1)), (5, .inl (r10.1)), (4, .inl (x4)), (3, .inr (.inr (161))), (2, .inr (.inr (122))), (1, .inr (.inr (2))), (0, .inr (.inr (1)))], [.inl (r10.1), .inl (r12.1)], hp r12.2, c + 1 + 0 + 0, z + 6 + 0 + 0)) 1 rfl ?_
  refine TL_icmp_eq 399 rfl rfl (fun _ => ?_) (fun _ => ?_)
  · refine T_go (S' := (401, [(6, .inl (r11.1)), (5, .inl (r10.1)), (4, .inl (x4)), (3, .inr (.inr (161))), (2, .inr (.inr (122))), (1, .inr (.inr (2))), (0, .inr (.inr (1)))], [.inl (r10.1)], hp r12.2, c + 1 + 0 + 0, z + 6 + 0 + 0)) 1 rfl ?_
    refine TL_if_ne 423 rfl rfl (fun _ => ?_) (fun _ => ?_)
    · refine T_go (S' := (23, [(4, .inl ((x4 + (5 : Int32)))), (6, .inl (r11.1)), (5, .inl (r10.1)), (3, .inr (.inr (161))), (2, .inr (.inr (122))), (1, .inr (.inr (2))), (0, .inr (.inr (1)))], [], hp r12.2, c + 1 + 0 + 0, z + 6 + 0 + 0)) 3 rfl ?_
      refine T_loc (ls' := [(4, .inl ((x4 + (5 : Int32)))), (3, .inr (.inr (161))), (2, .inr (.inr (122))), (1, .inr (.inr (2))), (0, .inr (.inr (1)))]) [0, 3, 4, 5, 6] rfl ?_
      exact ih (x4 + (5 : Int32)) r12.2 (c + 1 + 0 + 0) (z + 6 + 0 + 0) (by omega) (by omega)
    · refine T_go (S' := (406, [(6, .inl (r11.1)), (5, .inl (r10.1)), (4, .inl (x4)), (3, .inr (.inr (161))), (2, .inr (.inr (122))), (1, .inr (.inr (2))), (0, .inr (.inr (1)))], [.inl ((0 : Int32)), .inr (.inr (161))], hp r12.2, c + 1 + 0 + 0, z + 6 + 0 + 0)) 2 rfl ?_
      refine TL_lald rfl (fun _ => ?_)
      refine T_go (S' := (409, [(6, .inl (r11.1)), (5, .inl (r10.1)), (4, .inl (x4)), (3, .inr (.inr (161))), (2, .inr (.inr (122))), (1, .inr (.inr (2))), (0, .inr (.inr (1)))], [.inl (r11.1), .inr (.inl ((r12.2.2 161 (0 : Int32).toNatClampNeg)))], hp r12.2, c + 1 + 0 + 0, z + 6 + 0 + 0)) 1 rfl ?_
      refine TL_if_eq 416 rfl rfl (fun _ => ?_) (fun _ => ?_)
      · refine T_go (S' := (418, [(6, .inl (r11.1)), (5, .inl (r10.1)), (4, .inl (x4)), (3, .inr (.inr (161))), (2, .inr (.inr (122))), (1, .inr (.inr (2))), (0, .inr (.inr (1)))], [.inl ((lg_cmp (r12.2.2 161 (0 : Int32).toNatClampNeg) (0 : Int64)))], hp r12.2, c + 1 + 0 + 0, z + 6 + 0 + 0)) 2 rfl ?_
        refine TL_if_eq 423 rfl rfl (fun _ => ?_) (fun _ => ?_)
        · refine T_go (S' := (23, [(4, .inl ((x4 + (5 : Int32)))), (6, .inl (r11.1)), (5, .inl (r10.1)), (3, .inr (.inr (161))), (2, .inr (.inr (122))), (1, .inr (.inr (2))), (0, .inr (.inr (1)))], [], hp r12.2, c + 1 + 0 + 0, z + 6 + 0 + 0)) 3 rfl ?_
          refine T_loc (ls' := [(4, .inl ((x4 + (5 : Int32)))), (3, .inr (.inr (161))), (2, .inr (.inr (122))), (1, .inr (.inr (2))), (0, .inr (.inr (1)))]) [0, 3, 4, 5, 6] rfl ?_
          exact ih (x4 + (5 : Int32)) r12.2 (c + 1 + 0 + 0) (z + 6 + 0 + 0) (by omega) (by omega)
        · refine T_go (S' := (422, [(6, .inl (r11.1)), (5, .inl (r10.1)), (4, .inl (x4)), (3, .inr (.inr (161))), (2, .inr (.inr (122))), (1, .inr (.inr (2))), (0, .inr (.inr (1)))], [.inl ((0 : Int32))], hp r12.2, c + 1 + 0 + 0, z + 6 + 0 + 0)) 1 rfl ?_
          exact T_chkr rfl
      · refine T_go (S' := (418, [(6, .inl (r11.1)), (5, .inl (r10.1)), (4, .inl (x4)), (3, .inr (.inr (161))), (2, .inr (.inr (122))), (1, .inr (.inr (2))), (0, .inr (.inr (1)))], [.inl ((lg_cmp (r12.2.2 161 (0 : Int32).toNatClampNeg) (1 : Int64)))], hp r12.2, c + 1 + 0 + 0, z + 6 + 0 + 0)) 3 rfl ?_
        refine TL_if_eq 423 rfl rfl (fun _ => ?_) (fun _ => ?_)
        · refine T_go (S' := (23, [(4, .inl ((x4 + (5 : Int32)))), (6, .inl (r11.1)), (5, .inl (r10.1)), (3, .inr (.inr (161))), (2, .inr (.inr (122))), (1, .inr (.inr (2))), (0, .inr (.inr (1)))], [], hp r12.2, c + 1 + 0 + 0, z + 6 + 0 + 0)) 3 rfl ?_
          refine T_loc (ls' := [(4, .inl ((x4 + (5 : Int32)))), (3, .inr (.inr (161))), (2, .inr (.inr (122))), (1, .inr (.inr (2))), (0, .inr (.inr (1)))]) [0, 3, 4, 5, 6] rfl ?_
          exact ih (x4 + (5 : Int32)) r12.2 (c + 1 + 0 + 0) (z + 6 + 0 + 0) (by omega) (by omega)
        · refine T_go (S' := (422, [(6, .inl (r11.1)), (5, .inl (r10.1)), (4, .inl (x4)), (3, .inr (.inr (161))), (2, .inr (.inr (122))), (1, .inr (.inr (2))), (0, .inr (.inr (1)))], [.inl ((0 : Int32))], hp r12.2, c + 1 + 0 + 0, z + 6 + 0 + 0)) 1 rfl ?_
          exact T_chkr rfl
  · refine T_go (S' := (398, [(6, .inl (r11.1)), (5, .inl (r10.1)), (4, .inl (x4)), (3, .inr (.inr (161))), (2, .inr (.inr (122))), (1, .inr (.inr (2))), (0, .inr (.inr (1)))], [.inl ((0 : Int32))], hp r12.2, c + 1 + 0 + 0, z + 6 + 0 + 0)) 1 rfl ?_
    exact T_chkr rfl

set_option maxRecDepth 20000 in
def f_law_4 (N : Nat) (xs : Nat → Int32) (rec : Int32 → eMem → Option (Int32 × eMem)) (x4 : Int32) (σ : eMem) : Option (Int32 × eMem) :=
  if eix (x4 + (1 : Int32)) N = true then
    if eix (x4 + (2 : Int32)) N = true then
      if eix (x4 + (3 : Int32)) N = true then
        Option.bind (f_L_add 2 (xs (x4 + (1 : Int32)).toNatClampNeg) (xs (x4 + (2 : Int32)).toNatClampNeg) (xs (x4 + (3 : Int32)).toNatClampNeg) 161 σ) (fun r13 =>
          if eix (x4 + (1 : Int32)) N = true then
            if eix (x4 + (2 : Int32)) N = true then
              if eix (x4 + (3 : Int32)) N = true then
                if (KH 122).1 = 10 then
                  Option.bind (f_X12_add 122 (xs (x4 + (1 : Int32)).toNatClampNeg) (xs (x4 + (2 : Int32)).toNatClampNeg) (xs (x4 + (3 : Int32)).toNatClampNeg) r13.2) (fun r14 =>
                    if (KH 122).1 = 10 then
                      Option.bind (f_X12_thrown 122 r14.2) (fun r15 =>
                        if r15.1 = r13.1 then
                          if ¬ r13.1 = (0 : Int32) then
                            rec (x4 + (5 : Int32)) r15.2
                          else
                            if (KH 161).1 = 12 ∧ eix (0 : Int32) (KH 161).2 = true then
                              if (lg_cmp (r15.2.2 161 (0 : Int32).toNatClampNeg) r14.1.toInt64) = (0 : Int32) then
                                rec (x4 + (5 : Int32)) r15.2
                              else
                                if eB (0 : Int32) = true then some ((0 : Int32), r15.2) else none
                            else none
                        else
                          if eB (0 : Int32) = true then some ((0 : Int32), r15.2) else none
                        )
                    else none
                    )
                else none
              else none
            else none
          else none
          )
      else none
    else none
  else none

set_option maxHeartbeats 40000000 in
set_option maxRecDepth 20000 in
theorem s_law_4 (N : Nat) (xs : Nat → Int32) (rec : Int32 → eMem → Option (Int32 × eMem)) (C Z : Nat) (ih : ∀ (x4 : Int32) (σ : eMem) (c z : Nat), c ≤ C → z ≤ Z → Snd false (some (N, xs)) 23 m_L_law (rec x4 σ) (cN iI) (23, [(4, .inl (x4)), (3, .inr (.inr (161))), (2, .inr (.inr (122))), (1, .inr (.inr (2))), (0, .inr (.inr (1)))], [], hp σ, c, z)) (x4 : Int32) (σ : eMem) (c z : Nat) (hc : c + 10 ≤ C) (hz : z + 100 ≤ Z) (hC : C ≤ 601024) (hZ : Z ≤ 7293034) : Snd false (some (N, xs)) 23 m_L_law (f_law_4 N xs rec x4 σ) (cN iI) (426, [(4, .inl (x4)), (3, .inr (.inr (161))), (2, .inr (.inr (122))), (1, .inr (.inr (2))), (0, .inr (.inr (1)))], [], hp σ, c, z) := by
  unfold f_law_4
  refine T_go (S' := (432, [(4, .inl (x4)), (3, .inr (.inr (161))), (2, .inr (.inr (122))), (1, .inr (.inr (2))), (0, .inr (.inr (1)))], [.inl ((x4 + (1 : Int32))), .inr (.inr (1)), .inr (.inr (2))], hp σ, c, z)) 5 rfl ?_
  refine TL_iald rfl (fun _ => ?_)
  refine T_go (S' := (438, [(4, .inl (x4)), (3, .inr (.inr (161))), (2, .inr (.inr (122))), (1, .inr (.inr (2))), (0, .inr (.inr (1)))], [.inl ((x4 + (2 : Int32))), .inr (.inr (1)), .inl ((xs (x4 + (1 : Int32)).toNatClampNeg)), .inr (.inr (2))], hp σ, c, z)) 4 rfl ?_
  refine TL_iald rfl (fun _ => ?_)
  refine T_go (S' := (444, [(4, .inl (x4)), (3, .inr (.inr (161))), (2, .inr (.inr (122))), (1, .inr (.inr (2))), (0, .inr (.inr (1)))], [.inl ((x4 + (3 : Int32))), .inr (.inr (1)), .inl ((xs (x4 + (2 : Int32)).toNatClampNeg)), .inl ((xs (x4 + (1 : Int32)).toNatClampNeg)), .inr (.inr (2))], hp σ, c, z)) 4 rfl ?_
  refine TL_iald rfl (fun _ => ?_)
  refine T_go (S' := (446, [(4, .inl (x4)), (3, .inr (.inr (161))), (2, .inr (.inr (122))), (1, .inr (.inr (2))), (0, .inr (.inr (1)))], [.inr (.inr (161)), .inl ((xs (x4 + (3 : Int32)).toNatClampNeg)), .inl ((xs (x4 + (2 : Int32)).toNatClampNeg)), .inl ((xs (x4 + (1 : Int32)).toNatClampNeg)), .inr (.inr (2))], hp σ, c, z)) 1 rfl ?_
  refine TL_cs (i := iI) (as := [.inr (.inr (2)), .inl ((xs (x4 + (1 : Int32)).toNatClampNeg)), .inl ((xs (x4 + (2 : Int32)).toNatClampNeg)), .inl ((xs (x4 + (3 : Int32)).toNatClampNeg)), .inr (.inr (161))]) (rest := []) (st := [.inr (.inr (161)), .inl ((xs (x4 + (3 : Int32)).toNatClampNeg)), .inl ((xs (x4 + (2 : Int32)).toNatClampNeg)), .inl ((xs (x4 + (1 : Int32)).toNatClampNeg)), .inr (.inr (2))]) rfl (lb rfl) rfl rfl ⟨by omega, by omega, lb rfl, lb rfl⟩ (fun _ h => Ew_le (lb rfl) (s_L_add 2 (xs (x4 + (1 : Int32)).toNatClampNeg) (xs (x4 + (2 : Int32)).toNatClampNeg) (xs (x4 + (3 : Int32)).toNatClampNeg) 161 σ _ h)) (fun r13 => ?_)
  show Snd false (some (N, xs)) _ _ _ (cN iI) (449, [(4, .inl (x4)), (3, .inr (.inr (161))), (2, .inr (.inr (122))), (1, .inr (.inr (2))), (0, .inr (.inr (1)))], [.inl (r13.1)], hp r13.2, c + 4, z + 24)
  refine T_go (S' := (457, [(5, .inl (r13.1)), (4, .inl (x4)), (3, .inr (.inr (161))), (2, .inr (.inr (122))), (1, .inr (.inr (2))), (0, .inr (.inr (1)))], [.inl ((x4 + (1 : Int32))), .inr (.inr (1)), .inr (.inr (122))], hp r13.2, c + 4, z + 24)) 6 rfl ?_
  refine TL_iald rfl (fun _ => ?_)
  refine T_go (S' := (463, [(5, .inl (r13.1)), (4, .inl (x4)), (3, .inr (.inr (161))), (2, .inr (.inr (122))), (1, .inr (.inr (2))), (0, .inr (.inr (1)))], [.inl ((x4 + (2 : Int32))), .inr (.inr (1)), .inl ((xs (x4 + (1 : Int32)).toNatClampNeg)), .inr (.inr (122))], hp r13.2, c + 4, z + 24)) 4 rfl ?_
  refine TL_iald rfl (fun _ => ?_)
  refine T_go (S' := (469, [(5, .inl (r13.1)), (4, .inl (x4)), (3, .inr (.inr (161))), (2, .inr (.inr (122))), (1, .inr (.inr (2))), (0, .inr (.inr (1)))], [.inl ((x4 + (3 : Int32))), .inr (.inr (1)), .inl ((xs (x4 + (2 : Int32)).toNatClampNeg)), .inl ((xs (x4 + (1 : Int32)).toNatClampNeg)), .inr (.inr (122))], hp r13.2, c + 4, z + 24)) 4 rfl ?_
  refine TL_iald rfl (fun _ => ?_)
  refine TL_cv (i := iI) (as := [.inr (.inr (122)), .inl ((xs (x4 + (1 : Int32)).toNatClampNeg)), .inl ((xs (x4 + (2 : Int32)).toNatClampNeg)), .inl ((xs (x4 + (3 : Int32)).toNatClampNeg))]) (rest := []) (st := [.inl ((xs (x4 + (3 : Int32)).toNatClampNeg)), .inl ((xs (x4 + (2 : Int32)).toNatClampNeg)), .inl ((xs (x4 + (1 : Int32)).toNatClampNeg)), .inr (.inr (122))]) rfl rfl rfl ⟨by omega, by omega, lb rfl, lb rfl⟩ (fun _ h => Ew_le (lb rfl) (s_X12_add 122 (xs (x4 + (1 : Int32)).toNatClampNeg) (xs (x4 + (2 : Int32)).toNatClampNeg) (xs (x4 + (3 : Int32)).toNatClampNeg) r13.2 _ h)) (fun _ r14 => ?_)
  show Snd false (some (N, xs)) _ _ _ (cN iI) (473, [(5, .inl (r13.1)), (4, .inl (x4)), (3, .inr (.inr (161))), (2, .inr (.inr (122))), (1, .inr (.inr (2))), (0, .inr (.inr (1)))], [.inl (r14.1)], hp r14.2, c + 4 + 0, z + 24 + 0)
  refine T_go (S' := (476, [(6, .inl (r14.1)), (5, .inl (r13.1)), (4, .inl (x4)), (3, .inr (.inr (161))), (2, .inr (.inr (122))), (1, .inr (.inr (2))), (0, .inr (.inr (1)))], [.inr (.inr (122))], hp r14.2, c + 4 + 0, z + 24 + 0)) 2 rfl ?_
  refine TL_cv (i := iI) (as := [.inr (.inr (122))]) (rest := []) (st := [.inr (.inr (122))]) rfl rfl rfl ⟨by omega, by omega, lb rfl, lb rfl⟩ (fun _ h => Ew_le (lb rfl) (s_X12_thrown 122 r14.2 _ h)) (fun _ r15 => ?_)
  show Snd false (some (N, xs)) _ _ _ (cN iI) (479, [(6, .inl (r14.1)), (5, .inl (r13.1)), (4, .inl (x4)), (3, .inr (.inr (161))), (2, .inr (.inr (122))), (1, .inr (.inr (2))), (0, .inr (.inr (1)))], [.inl (r15.1)], hp r15.2, c + 4 + 0 + 0, z + 24 + 0 + 0)
  refine T_go (S' := (481, [(6, .inl (r14.1)), (5, .inl (r13.1)), (4, .inl (x4)), (3, .inr (.inr (161))), (2, .inr (.inr (122))), (1, .inr (.inr (2))), (0, .inr (.inr (1)))], [.inl (r13.1), .inl (r15.1)], hp r15.2, c + 4 + 0 + 0, z + 24 + 0 + 0)) 1 rfl ?_
  refine TL_icmp_eq 486 rfl rfl (fun _ => ?_) (fun _ => ?_)
  · refine T_go (S' := (488, [(6, .inl (r14.1)), (5, .inl (r13.1)), (4, .inl (x4)), (3, .inr (.inr (161))), (2, .inr (.inr (122))), (1, .inr (.inr (2))), (0, .inr (.inr (1)))], [.inl (r13.1)], hp r15.2, c + 4 + 0 + 0, z + 24 + 0 + 0)) 1 rfl ?_
    refine TL_if_ne 503 rfl rfl (fun _ => ?_) (fun _ => ?_)
    · refine T_go (S' := (23, [(4, .inl ((x4 + (5 : Int32)))), (6, .inl (r14.1)), (5, .inl (r13.1)), (3, .inr (.inr (161))), (2, .inr (.inr (122))), (1, .inr (.inr (2))), (0, .inr (.inr (1)))], [], hp r15.2, c + 4 + 0 + 0, z + 24 + 0 + 0)) 3 rfl ?_
      refine T_loc (ls' := [(4, .inl ((x4 + (5 : Int32)))), (3, .inr (.inr (161))), (2, .inr (.inr (122))), (1, .inr (.inr (2))), (0, .inr (.inr (1)))]) [0, 3, 4, 5, 6] rfl ?_
      exact ih (x4 + (5 : Int32)) r15.2 (c + 4 + 0 + 0) (z + 24 + 0 + 0) (by omega) (by omega)
    · refine T_go (S' := (493, [(6, .inl (r14.1)), (5, .inl (r13.1)), (4, .inl (x4)), (3, .inr (.inr (161))), (2, .inr (.inr (122))), (1, .inr (.inr (2))), (0, .inr (.inr (1)))], [.inl ((0 : Int32)), .inr (.inr (161))], hp r15.2, c + 4 + 0 + 0, z + 24 + 0 + 0)) 2 rfl ?_
      refine TL_lald rfl (fun _ => ?_)
      refine T_go (S' := (498, [(6, .inl (r14.1)), (5, .inl (r13.1)), (4, .inl (x4)), (3, .inr (.inr (161))), (2, .inr (.inr (122))), (1, .inr (.inr (2))), (0, .inr (.inr (1)))], [.inl ((lg_cmp (r15.2.2 161 (0 : Int32).toNatClampNeg) r14.1.toInt64))], hp r15.2, c + 4 + 0 + 0, z + 24 + 0 + 0)) 3 rfl ?_
      refine TL_if_eq 503 rfl rfl (fun _ => ?_) (fun _ => ?_)
      · refine T_go (S' := (23, [(4, .inl ((x4 + (5 : Int32)))), (6, .inl (r14.1)), (5, .inl (r13.1)), (3, .inr (.inr (161))), (2, .inr (.inr (122))), (1, .inr (.inr (2))), (0, .inr (.inr (1)))], [], hp r15.2, c + 4 + 0 + 0, z + 24 + 0 + 0)) 3 rfl ?_
        refine T_loc (ls' := [(4, .inl ((x4 + (5 : Int32)))), (3, .inr (.inr (161))), (2, .inr (.inr (122))), (1, .inr (.inr (2))), (0, .inr (.inr (1)))]) [0, 3, 4, 5, 6] rfl ?_
        exact ih (x4 + (5 : Int32)) r15.2 (c + 4 + 0 + 0) (z + 24 + 0 + 0) (by omega) (by omega)
      · refine T_go (S' := (502, [(6, .inl (r14.1)), (5, .inl (r13.1)), (4, .inl (x4)), (3, .inr (.inr (161))), (2, .inr (.inr (122))), (1, .inr (.inr (2))), (0, .inr (.inr (1)))], [.inl ((0 : Int32))], hp r15.2, c + 4 + 0 + 0, z + 24 + 0 + 0)) 1 rfl ?_
        exact T_chkr rfl
  · refine T_go (S' := (485, [(6, .inl (r14.1)), (5, .inl (r13.1)), (4, .inl (x4)), (3, .inr (.inr (161))), (2, .inr (.inr (122))), (1, .inr (.inr (2))), (0, .inr (.inr (1)))], [.inl ((0 : Int32))], hp r15.2, c + 4 + 0 + 0, z + 24 + 0 + 0)) 1 rfl ?_
    exact T_chkr rfl

set_option maxRecDepth 20000 in
def f_law_5 (N : Nat) (xs : Nat → Int32) (rec : Int32 → eMem → Option (Int32 × eMem)) (x4 : Int32) (σ : eMem) : Option (Int32 × eMem) :=
  if eix (x4 + (1 : Int32)) N = true then
    Option.bind (f_L_begin 2 (xs (x4 + (1 : Int32)).toNatClampNeg) 161 σ) (fun r16 =>
      if eix (x4 + (1 : Int32)) N = true then
        if (KH 122).1 = 10 then
          Option.bind (f_X12_begin 122 (xs (x4 + (1 : Int32)).toNatClampNeg) r16.2) (fun r17 =>
            if (KH 122).1 = 10 then
              Option.bind (f_X12_thrown 122 r17.2) (fun r18 =>
                if r18.1 = r16.1 then
                  if ¬ r16.1 = (0 : Int32) then
                    rec (x4 + (5 : Int32)) r18.2
                  else
                    if (KH 161).1 = 12 ∧ eix (0 : Int32) (KH 161).2 = true then
                      if (lg_cmp (r18.2.2 161 (0 : Int32).toNatClampNeg) r17.1.toInt64) = (0 : Int32) then
                        rec (x4 + (5 : Int32)) r18.2
                      else
                        if eB (0 : Int32) = true then some ((0 : Int32), r18.2) else none
                    else none
                else
                  if eB (0 : Int32) = true then some ((0 : Int32), r18.2) else none
                )
            else none
            )
        else none
      else none
      )
  else none

set_option maxHeartbeats 40000000 in
set_option maxRecDepth 20000 in
theorem s_law_5 (N : Nat) (xs : Nat → Int32) (rec : Int32 → eMem → Option (Int32 × eMem)) (C Z : Nat) (ih : ∀ (x4 : Int32) (σ : eMem) (c z : Nat), c ≤ C → z ≤ Z → Snd false (some (N, xs)) 23 m_L_law (rec x4 σ) (cN iI) (23, [(4, .inl (x4)), (3, .inr (.inr (161))), (2, .inr (.inr (122))), (1, .inr (.inr (2))), (0, .inr (.inr (1)))], [], hp σ, c, z)) (x4 : Int32) (σ : eMem) (c z : Nat) (hc : c + 10 ≤ C) (hz : z + 100 ≤ Z) (hC : C ≤ 601024) (hZ : Z ≤ 7293034) : Snd false (some (N, xs)) 23 m_L_law (f_law_5 N xs rec x4 σ) (cN iI) (506, [(4, .inl (x4)), (3, .inr (.inr (161))), (2, .inr (.inr (122))), (1, .inr (.inr (2))), (0, .inr (.inr (1)))], [], hp σ, c, z) := by
  unfold f_law_5
  refine T_go (S' := (512, [(4, .inl (x4)), (3, .inr (.inr (161))), (2, .inr (.inr (122))), (1, .inr (.inr (2))), (0, .inr (.inr (1)))], [.inl ((x4 + (1 : Int32))), .inr (.inr (1)), .inr (.inr (2))], hp σ, c, z)) 5 rfl ?_
  refine TL_iald rfl (fun _ => ?_)
  refine T_go (S' := (514, [(4, .inl (x4)), (3, .inr (.inr (161))), (2, .inr (.inr (122))), (1, .inr (.inr (2))), (0, .inr (.inr (1)))], [.inr (.inr (161)), .inl ((xs (x4 + (1 : Int32)).toNatClampNeg)), .inr (.inr (2))], hp σ, c, z)) 1 rfl ?_
  refine TL_cs (i := iI) (as := [.inr (.inr (2)), .inl ((xs (x4 + (1 : Int32)).toNatClampNeg)), .inr (.inr (161))]) (rest := []) (st := [.inr (.inr (161)), .inl ((xs (x4 + (1 : Int32)).toNatClampNeg)), .inr (.inr (2))]) rfl (lb rfl) rfl rfl ⟨by omega, by omega, lb rfl, lb rfl⟩ (fun _ h => Ew_le (lb rfl) (s_L_begin 2 (xs (x4 + (1 : Int32)).toNatClampNeg) 161 σ _ h)) (fun r16 => ?_)
  show Snd false (some (N, xs)) _ _ _ (cN iI) (517, [(4, .inl (x4)), (3, .inr (.inr (161))), (2, .inr (.inr (122))), (1, .inr (.inr (2))), (0, .inr (.inr (1)))], [.inl (r16.1)], hp r16.2, c + 2, z + 12)
  refine T_go (S' := (525, [(5, .inl (r16.1)), (4, .inl (x4)), (3, .inr (.inr (161))), (2, .inr (.inr (122))), (1, .inr (.inr (2))), (0, .inr (.inr (1)))], [.inl ((x4 + (1 : Int32))), .inr (.inr (1)), .inr (.inr (122))], hp r16.2, c + 2, z + 12)) 6 rfl ?_
  refine TL_iald rfl (fun _ => ?_)
  refine TL_cv (i := iI) (as := [.inr (.inr (122)), .inl ((xs (x4 + (1 : Int32)).toNatClampNeg))]) (rest := []) (st := [.inl ((xs (x4 + (1 : Int32)).toNatClampNeg)), .inr (.inr (122))]) rfl rfl rfl ⟨by omega, by omega, lb rfl, lb rfl⟩ (fun _ h => Ew_le (lb rfl) (s_X12_begin 122 (xs (x4 + (1 : Int32)).toNatClampNeg) r16.2 _ h)) (fun _ r17 => ?_)
  show Snd false (some (N, xs)) _ _ _ (cN iI) (529, [(5, .inl (r16.1)), (4, .inl (x4)), (3, .inr (.inr (161))), (2, .inr (.inr (122))), (1, .inr (.inr (2))), (0, .inr (.inr (1)))], [.inl (r17.1)], hp r17.2, c + 2 + 0, z + 12 + 0)
  refine T_go (S' := (532, [(6, .inl (r17.1)), (5, .inl (r16.1)), (4, .inl (x4)), (3, .inr (.inr (161))), (2, .inr (.inr (122))), (1, .inr (.inr (2))), (0, .inr (.inr (1)))], [.inr (.inr (122))], hp r17.2, c + 2 + 0, z + 12 + 0)) 2 rfl ?_
  refine TL_cv (i := iI) (as := [.inr (.inr (122))]) (rest := []) (st := [.inr (.inr (122))]) rfl rfl rfl ⟨by omega, by omega, lb rfl, lb rfl⟩ (fun _ h => Ew_le (lb rfl) (s_X12_thrown 122 r17.2 _ h)) (fun _ r18 => ?_)
  show Snd false (some (N, xs)) _ _ _ (cN iI) (535, [(6, .inl (r17.1)), (5, .inl (r16.1)), (4, .inl (x4)), (3, .inr (.inr (161))), (2, .inr (.inr (122))), (1, .inr (.inr (2))), (0, .inr (.inr (1)))], [.inl (r18.1)], hp r18.2, c + 2 + 0 + 0, z + 12 + 0 + 0)
  refine T_go (S' := (537, [(6, .inl (r17.1)), (5, .inl (r16.1)), (4, .inl (x4)), (3, .inr (.inr (161))), (2, .inr (.inr (122))), (1, .inr (.inr (2))), (0, .inr (.inr (1)))], [.inl (r16.1), .inl (r18.1)], hp r18.2, c + 2 + 0 + 0, z + 12 + 0 + 0)) 1 rfl ?_
  refine TL_icmp_eq 542 rfl rfl (fun _ => ?_) (fun _ => ?_)
  · refine T_go (S' := (544, [(6, .inl (r17.1)), (5, .inl (r16.1)), (4, .inl (x4)), (3, .inr (.inr (161))), (2, .inr (.inr (122))), (1, .inr (.inr (2))), (0, .inr (.inr (1)))], [.inl (r16.1)], hp r18.2, c + 2 + 0 + 0, z + 12 + 0 + 0)) 1 rfl ?_
    refine TL_if_ne 559 rfl rfl (fun _ => ?_) (fun _ => ?_)
    · refine T_go (S' := (23, [(4, .inl ((x4 + (5 : Int32)))), (6, .inl (r17.1)), (5, .inl (r16.1)), (3, .inr (.inr (161))), (2, .inr (.inr (122))), (1, .inr (.inr (2))), (0, .inr (.inr (1)))], [], hp r18.2, c + 2 + 0 + 0, z + 12 + 0 + 0)) 3 rfl ?_
      refine T_loc (ls' := [(4, .inl ((x4 + (5 : Int32)))), (3, .inr (.inr (161))), (2, .inr (.inr (122))), (1, .inr (.inr (2))), (0, .inr (.inr (1)))]) [0, 3, 4, 5, 6] rfl ?_
      exact ih (x4 + (5 : Int32)) r18.2 (c + 2 + 0 + 0) (z + 12 + 0 + 0) (by omega) (by omega)
    · refine T_go (S' := (549, [(6, .inl (r17.1)), (5, .inl (r16.1)), (4, .inl (x4)), (3, .inr (.inr (161))), (2, .inr (.inr (122))), (1, .inr (.inr (2))), (0, .inr (.inr (1)))], [.inl ((0 : Int32)), .inr (.inr (161))], hp r18.2, c + 2 + 0 + 0, z + 12 + 0 + 0)) 2 rfl ?_
      refine TL_lald rfl (fun _ => ?_)
      refine T_go (S' := (554, [(6, .inl (r17.1)), (5, .inl (r16.1)), (4, .inl (x4)), (3, .inr (.inr (161))), (2, .inr (.inr (122))), (1, .inr (.inr (2))), (0, .inr (.inr (1)))], [.inl ((lg_cmp (r18.2.2 161 (0 : Int32).toNatClampNeg) r17.1.toInt64))], hp r18.2, c + 2 + 0 + 0, z + 12 + 0 + 0)) 3 rfl ?_
      refine TL_if_eq 559 rfl rfl (fun _ => ?_) (fun _ => ?_)
      · refine T_go (S' := (23, [(4, .inl ((x4 + (5 : Int32)))), (6, .inl (r17.1)), (5, .inl (r16.1)), (3, .inr (.inr (161))), (2, .inr (.inr (122))), (1, .inr (.inr (2))), (0, .inr (.inr (1)))], [], hp r18.2, c + 2 + 0 + 0, z + 12 + 0 + 0)) 3 rfl ?_
        refine T_loc (ls' := [(4, .inl ((x4 + (5 : Int32)))), (3, .inr (.inr (161))), (2, .inr (.inr (122))), (1, .inr (.inr (2))), (0, .inr (.inr (1)))]) [0, 3, 4, 5, 6] rfl ?_
        exact ih (x4 + (5 : Int32)) r18.2 (c + 2 + 0 + 0) (z + 12 + 0 + 0) (by omega) (by omega)
      · refine T_go (S' := (558, [(6, .inl (r17.1)), (5, .inl (r16.1)), (4, .inl (x4)), (3, .inr (.inr (161))), (2, .inr (.inr (122))), (1, .inr (.inr (2))), (0, .inr (.inr (1)))], [.inl ((0 : Int32))], hp r18.2, c + 2 + 0 + 0, z + 12 + 0 + 0)) 1 rfl ?_
        exact T_chkr rfl
  · refine T_go (S' := (541, [(6, .inl (r17.1)), (5, .inl (r16.1)), (4, .inl (x4)), (3, .inr (.inr (161))), (2, .inr (.inr (122))), (1, .inr (.inr (2))), (0, .inr (.inr (1)))], [.inl ((0 : Int32))], hp r18.2, c + 2 + 0 + 0, z + 12 + 0 + 0)) 1 rfl ?_
    exact T_chkr rfl

set_option maxRecDepth 20000 in
def f_law_6 (N : Nat) (xs : Nat → Int32) (rec : Int32 → eMem → Option (Int32 × eMem)) (x4 : Int32) (σ : eMem) : Option (Int32 × eMem) :=
  if eix (x4 + (1 : Int32)) N = true then
    Option.bind (f_L_end 2 (xs (x4 + (1 : Int32)).toNatClampNeg) 161 σ) (fun r19 =>
      if eix (x4 + (1 : Int32)) N = true then
        if (KH 122).1 = 10 then
          Option.bind (f_X12_end 122 (xs (x4 + (1 : Int32)).toNatClampNeg) r19.2) (fun r20 =>
            if (KH 122).1 = 10 then
              Option.bind (f_X12_thrown 122 r20.2) (fun r21 =>
                if r21.1 = r19.1 then
                  if ¬ r19.1 = (0 : Int32) then
                    rec (x4 + (5 : Int32)) r21.2
                  else
                    if (KH 161).1 = 12 ∧ eix (0 : Int32) (KH 161).2 = true then
                      if (lg_cmp (r21.2.2 161 (0 : Int32).toNatClampNeg) r20.1.toInt64) = (0 : Int32) then
                        rec (x4 + (5 : Int32)) r21.2
                      else
                        if eB (0 : Int32) = true then some ((0 : Int32), r21.2) else none
                    else none
                else
                  if eB (0 : Int32) = true then some ((0 : Int32), r21.2) else none
                )
            else none
            )
        else none
      else none
      )
  else none

set_option maxHeartbeats 40000000 in
set_option maxRecDepth 20000 in
theorem s_law_6 (N : Nat) (xs : Nat → Int32) (rec : Int32 → eMem → Option (Int32 × eMem)) (C Z : Nat) (ih : ∀ (x4 : Int32) (σ : eMem) (c z : Nat), c ≤ C → z ≤ Z → Snd false (some (N, xs)) 23 m_L_law (rec x4 σ) (cN iI) (23, [(4, .inl (x4)), (3, .inr (.inr (161))), (2, .inr (.inr (122))), (1, .inr (.inr (2))), (0, .inr (.inr (1)))], [], hp σ, c, z)) (x4 : Int32) (σ : eMem) (c z : Nat) (hc : c + 10 ≤ C) (hz : z + 100 ≤ Z) (hC : C ≤ 601024) (hZ : Z ≤ 7293034) : Snd false (some (N, xs)) 23 m_L_law (f_law_6 N xs rec x4 σ) (cN iI) (562, [(4, .inl (x4)), (3, .inr (.inr (161))), (2, .inr (.inr (122))), (1, .inr (.inr (2))), (0, .inr (.inr (1)))], [], hp σ, c, z) := by
  unfold f_law_6
  refine T_go (S' := (568, [(4, .inl (x4)), (3, .inr (.inr (161))), (2, .inr (.inr (122))), (1, .inr (.inr (2))), (0, .inr (.inr (1)))], [.inl ((x4 + (1 : Int32))), .inr (.inr (1)), .inr (.inr (2))], hp σ, c, z)) 5 rfl ?_
  refine TL_iald rfl (fun _ => ?_)
  refine T_go (S' := (570, [(4, .inl (x4)), (3, .inr (.inr (161))), (2, .inr (.inr (122))), (1, .inr (.inr (2))), (0, .inr (.inr (1)))], [.inr (.inr (161)), .inl ((xs (x4 + (1 : Int32)).toNatClampNeg)), .inr (.inr (2))], hp σ, c, z)) 1 rfl ?_
  refine TL_cs (i := iI) (as := [.inr (.inr (2)), .inl ((xs (x4 + (1 : Int32)).toNatClampNeg)), .inr (.inr (161))]) (rest := []) (st := [.inr (.inr (161)), .inl ((xs (x4 + (1 : Int32)).toNatClampNeg)), .inr (.inr (2))]) rfl (lb rfl) rfl rfl ⟨by omega, by omega, lb rfl, lb rfl⟩ (fun _ h => Ew_le (lb rfl) (s_L_end 2 (xs (x4 + (1 : Int32)).toNatClampNeg) 161 σ _ h)) (fun r19 => ?_)
  show Snd false (some (N, xs)) _ _ _ (cN iI) (573, [(4, .inl (x4)), (3, .inr (.inr (161))), (2, .inr (.inr (122))), (1, .inr (.inr (2))), (0, .inr (.inr (1)))], [.inl (r19.1)], hp r19.2, c + 2, z + 12)
  refine T_go (S' := (581, [(5, .inl (r19.1)), (4, .inl (x4)), (3, .inr (.inr (161))), (2, .inr (.inr (122))), (1, .inr (.inr (2))), (0, .inr (.inr (1)))], [.inl ((x4 + (1 : Int32))), .inr (.inr (1)), .inr (.inr (122))], hp r19.2, c + 2, z + 12)) 6 rfl ?_
  refine TL_iald rfl (fun _ => ?_)
  refine TL_cv (i := iI) (as := [.inr (.inr (122)), .inl ((xs (x4 + (1 : Int32)).toNatClampNeg))]) (rest := []) (st := [.inl ((xs (x4 + (1 : Int32)).toNatClampNeg)), .inr (.inr (122))]) rfl rfl rfl ⟨by omega, by omega, lb rfl, lb rfl⟩ (fun _ h => Ew_le (lb rfl) (s_X12_end 122 (xs (x4 + (1 : Int32)).toNatClampNeg) r19.2 _ h)) (fun _ r20 => ?_)
  show Snd false (some (N, xs)) _ _ _ (cN iI) (585, [(5, .inl (r19.1)), (4, .inl (x4)), (3, .inr (.inr (161))), (2, .inr (.inr (122))), (1, .inr (.inr (2))), (0, .inr (.inr (1)))], [.inl (r20.1)], hp r20.2, c + 2 + 0, z + 12 + 0)
  refine T_go (S' := (588, [(6, .inl (r20.1)), (5, .inl (r19.1)), (4, .inl (x4)), (3, .inr (.inr (161))), (2, .inr (.inr (122))), (1, .inr (.inr (2))), (0, .inr (.inr (1)))], [.inr (.inr (122))], hp r20.2, c + 2 + 0, z + 12 + 0)) 2 rfl ?_
  refine TL_cv (i := iI) (as := [.inr (.inr (122))]) (rest := []) (st := [.inr (.inr (122))]) rfl rfl rfl ⟨by omega, by omega, lb rfl, lb rfl⟩ (fun _ h => Ew_le (lb rfl) (s_X12_thrown 122 r20.2 _ h)) (fun _ r21 => ?_)
  show Snd false (some (N, xs)) _ _ _ (cN iI) (591, [(6, .inl (r20.1)), (5, .inl (r19.1)), (4, .inl (x4)), (3, .inr (.inr (161))), (2, .inr (.inr (122))), (1, .inr (.inr (2))), (0, .inr (.inr (1)))], [.inl (r21.1)], hp r21.2, c + 2 + 0 + 0, z + 12 + 0 + 0)
  refine T_go (S' := (593, [(6, .inl (r20.1)), (5, .inl (r19.1)), (4, .inl (x4)), (3, .inr (.inr (161))), (2, .inr (.inr (122))), (1, .inr (.inr (2))), (0, .inr (.inr (1)))], [.inl (r19.1), .inl (r21.1)], hp r21.2, c + 2 + 0 + 0, z + 12 + 0 + 0)) 1 rfl ?_
  refine TL_icmp_eq 598 rfl rfl (fun _ => ?_) (fun _ => ?_)
  · refine T_go (S' := (600, [(6, .inl (r20.1)), (5, .inl (r19.1)), (4, .inl (x4)), (3, .inr (.inr (161))), (2, .inr (.inr (122))), (1, .inr (.inr (2))), (0, .inr (.inr (1)))], [.inl (r19.1)], hp r21.2, c + 2 + 0 + 0, z + 12 + 0 + 0)) 1 rfl ?_
    refine TL_if_ne 615 rfl rfl (fun _ => ?_) (fun _ => ?_)
    · refine T_go (S' := (23, [(4, .inl ((x4 + (5 : Int32)))), (6, .inl (r20.1)), (5, .inl (r19.1)), (3, .inr (.inr (161))), (2, .inr (.inr (122))), (1, .inr (.inr (2))), (0, .inr (.inr (1)))], [], hp r21.2, c + 2 + 0 + 0, z + 12 + 0 + 0)) 3 rfl ?_
      refine T_loc (ls' := [(4, .inl ((x4 + (5 : Int32)))), (3, .inr (.inr (161))), (2, .inr (.inr (122))), (1, .inr (.inr (2))), (0, .inr (.inr (1)))]) [0, 3, 4, 5, 6] rfl ?_
      exact ih (x4 + (5 : Int32)) r21.2 (c + 2 + 0 + 0) (z + 12 + 0 + 0) (by omega) (by omega)
    · refine T_go (S' := (605, [(6, .inl (r20.1)), (5, .inl (r19.1)), (4, .inl (x4)), (3, .inr (.inr (161))), (2, .inr (.inr (122))), (1, .inr (.inr (2))), (0, .inr (.inr (1)))], [.inl ((0 : Int32)), .inr (.inr (161))], hp r21.2, c + 2 + 0 + 0, z + 12 + 0 + 0)) 2 rfl ?_
      refine TL_lald rfl (fun _ => ?_)
      refine T_go (S' := (610, [(6, .inl (r20.1)), (5, .inl (r19.1)), (4, .inl (x4)), (3, .inr (.inr (161))), (2, .inr (.inr (122))), (1, .inr (.inr (2))), (0, .inr (.inr (1)))], [.inl ((lg_cmp (r21.2.2 161 (0 : Int32).toNatClampNeg) r20.1.toInt64))], hp r21.2, c + 2 + 0 + 0, z + 12 + 0 + 0)) 3 rfl ?_
      refine TL_if_eq 615 rfl rfl (fun _ => ?_) (fun _ => ?_)
      · refine T_go (S' := (23, [(4, .inl ((x4 + (5 : Int32)))), (6, .inl (r20.1)), (5, .inl (r19.1)), (3, .inr (.inr (161))), (2, .inr (.inr (122))), (1, .inr (.inr (2))), (0, .inr (.inr (1)))], [], hp r21.2, c + 2 + 0 + 0, z + 12 + 0 + 0)) 3 rfl ?_
        refine T_loc (ls' := [(4, .inl ((x4 + (5 : Int32)))), (3, .inr (.inr (161))), (2, .inr (.inr (122))), (1, .inr (.inr (2))), (0, .inr (.inr (1)))]) [0, 3, 4, 5, 6] rfl ?_
        exact ih (x4 + (5 : Int32)) r21.2 (c + 2 + 0 + 0) (z + 12 + 0 + 0) (by omega) (by omega)
      · refine T_go (S' := (614, [(6, .inl (r20.1)), (5, .inl (r19.1)), (4, .inl (x4)), (3, .inr (.inr (161))), (2, .inr (.inr (122))), (1, .inr (.inr (2))), (0, .inr (.inr (1)))], [.inl ((0 : Int32))], hp r21.2, c + 2 + 0 + 0, z + 12 + 0 + 0)) 1 rfl ?_
        exact T_chkr rfl
  · refine T_go (S' := (597, [(6, .inl (r20.1)), (5, .inl (r19.1)), (4, .inl (x4)), (3, .inr (.inr (161))), (2, .inr (.inr (122))), (1, .inr (.inr (2))), (0, .inr (.inr (1)))], [.inl ((0 : Int32))], hp r21.2, c + 2 + 0 + 0, z + 12 + 0 + 0)) 1 rfl ?_
    exact T_chkr rfl

set_option maxRecDepth 20000 in
def f_law_7 (N : Nat) (xs : Nat → Int32) (rec : Int32 → eMem → Option (Int32 × eMem)) (x4 : Int32) (σ : eMem) : Option (Int32 × eMem) :=
  if eix (x4 + (1 : Int32)) N = true then
    if eix (x4 + (2 : Int32)) N = true then
      Option.bind (f_L_deliver 2 (xs (x4 + (1 : Int32)).toNatClampNeg) (xs (x4 + (2 : Int32)).toNatClampNeg) 161 σ) (fun r22 =>
        if eix (x4 + (1 : Int32)) N = true then
          if eix (x4 + (2 : Int32)) N = true then
            if (KH 122).1 = 10 then
              Option.bind (f_X12_deliver 122 (xs (x4 + (1 : Int32)).toNatClampNeg) (xs (x4 + (2 : Int32)).toNatClampNeg) r22.2) (fun r23 =>
                if (KH 122).1 = 10 then
                  Option.bind (f_X12_thrown 122 r23.2) (fun r24 =>
                    if r24.1 = r22.1 then
                      if ¬ r22.1 = (0 : Int32) then
                        rec (x4 + (5 : Int32)) r24.2
                      else
                        if (KH 161).1 = 12 ∧ eix (0 : Int32) (KH 161).2 = true then
                          if (lg_cmp (r24.2.2 161 (0 : Int32).toNatClampNeg) r23.1.toInt64) = (0 : Int32) then
                            rec (x4 + (5 : Int32)) r24.2
                          else
                            if eB (0 : Int32) = true then some ((0 : Int32), r24.2) else none
                        else none
                    else
                      if eB (0 : Int32) = true then some ((0 : Int32), r24.2) else none
                    )
                else none
                )
            else none
          else none
        else none
        )
    else none
  else none

set_option maxHeartbeats 40000000 in
set_option maxRecDepth 20000 in
theorem s_law_7 (N : Nat) (xs : Nat → Int32) (rec : Int32 → eMem → Option (Int32 × eMem)) (C Z : Nat) (ih : ∀ (x4 : Int32) (σ : eMem) (c z : Nat), c ≤ C → z ≤ Z → Snd false (some (N, xs)) 23 m_L_law (rec x4 σ) (cN iI) (23, [(4, .inl (x4)), (3, .inr (.inr (161))), (2, .inr (.inr (122))), (1, .inr (.inr (2))), (0, .inr (.inr (1)))], [], hp σ, c, z)) (x4 : Int32) (σ : eMem) (c z : Nat) (hc : c + 10 ≤ C) (hz : z + 100 ≤ Z) (hC : C ≤ 601024) (hZ : Z ≤ 7293034) : Snd false (some (N, xs)) 23 m_L_law (f_law_7 N xs rec x4 σ) (cN iI) (618, [(4, .inl (x4)), (3, .inr (.inr (161))), (2, .inr (.inr (122))), (1, .inr (.inr (2))), (0, .inr (.inr (1)))], [], hp σ, c, z) := by
  unfold f_law_7
  refine T_go (S' := (624, [(4, .inl (x4)), (3, .inr (.inr (161))), (2, .inr (.inr (122))), (1, .inr (.inr (2))), (0, .inr (.inr (1)))], [.inl ((x4 + (1 : Int32))), .inr (.inr (1)), .inr (.inr (2))], hp σ, c, z)) 5 rfl ?_
  refine TL_iald rfl (fun _ => ?_)
  refine T_go (S' := (630, [(4, .inl (x4)), (3, .inr (.inr (161))), (2, .inr (.inr (122))), (1, .inr (.inr (2))), (0, .inr (.inr (1)))], [.inl ((x4 + (2 : Int32))), .inr (.inr (1)), .inl ((xs (x4 + (1 : Int32)).toNatClampNeg)), .inr (.inr (2))], hp σ, c, z)) 4 rfl ?_
  refine TL_iald rfl (fun _ => ?_)
  refine T_go (S' := (632, [(4, .inl (x4)), (3, .inr (.inr (161))), (2, .inr (.inr (122))), (1, .inr (.inr (2))), (0, .inr (.inr (1)))], [.inr (.inr (161)), .inl ((xs (x4 + (2 : Int32)).toNatClampNeg)), .inl ((xs (x4 + (1 : Int32)).toNatClampNeg)), .inr (.inr (2))], hp σ, c, z)) 1 rfl ?_
  refine TL_cs (i := iI) (as := [.inr (.inr (2)), .inl ((xs (x4 + (1 : Int32)).toNatClampNeg)), .inl ((xs (x4 + (2 : Int32)).toNatClampNeg)), .inr (.inr (161))]) (rest := []) (st := [.inr (.inr (161)), .inl ((xs (x4 + (2 : Int32)).toNatClampNeg)), .inl ((xs (x4 + (1 : Int32)).toNatClampNeg)), .inr (.inr (2))]) rfl (lb rfl) rfl rfl ⟨by omega, by omega, lb rfl, lb rfl⟩ (fun _ h => Ew_le (lb rfl) (s_L_deliver 2 (xs (x4 + (1 : Int32)).toNatClampNeg) (xs (x4 + (2 : Int32)).toNatClampNeg) 161 σ _ h)) (fun r22 => ?_)
  show Snd false (some (N, xs)) _ _ _ (cN iI) (635, [(4, .inl (x4)), (3, .inr (.inr (161))), (2, .inr (.inr (122))), (1, .inr (.inr (2))), (0, .inr (.inr (1)))], [.inl (r22.1)], hp r22.2, c + 3, z + 18)
  refine T_go (S' := (643, [(5, .inl (r22.1)), (4, .inl (x4)), (3, .inr (.inr (161))), (2, .inr (.inr (122))), (1, .inr (.inr (2))), (0, .inr (.inr (1)))], [.inl ((x4 + (1 : Int32))), .inr (.inr (1)), .inr (.inr (122))], hp r22.2, c + 3, z + 18)) 6 rfl ?_
  refine TL_iald rfl (fun _ => ?_)
  refine T_go (S' := (649, [(5, .inl (r22.1)), (4, .inl (x4)), (3, .inr (.inr (161))), (2, .inr (.inr (122))), (1, .inr (.inr (2))), (0, .inr (.inr (1)))], [.inl ((x4 + (2 : Int32))), .inr (.inr (1)), .inl ((xs (x4 + (1 : Int32)).toNatClampNeg)), .inr (.inr (122))], hp r22.2, c + 3, z + 18)) 4 rfl ?_
  refine TL_iald rfl (fun _ => ?_)
  refine TL_cv (i := iI) (as := [.inr (.inr (122)), .inl ((xs (x4 + (1 : Int32)).toNatClampNeg)), .inl ((xs (x4 + (2 : Int32)).toNatClampNeg))]) (rest := []) (st := [.inl ((xs (x4 + (2 : Int32)).toNatClampNeg)), .inl ((xs (x4 + (1 : Int32)).toNatClampNeg)), .inr (.inr (122))]) rfl rfl rfl ⟨by omega, by omega, lb rfl, lb rfl⟩ (fun _ h => Ew_le (lb rfl) (s_X12_deliver 122 (xs (x4 + (1 : Int32)).toNatClampNeg) (xs (x4 + (2 : Int32)).toNatClampNeg) r22.2 _ h)) (fun _ r23 => ?_)
  show Snd false (some (N, xs)) _ _ _ (cN iI) (653, [(5, .inl (r22.1)), (4, .inl (x4)), (3, .inr (.inr (161))), (2, .inr (.inr (122))), (1, .inr (.inr (2))), (0, .inr (.inr (1)))], [.inl (r23.1)], hp r23.2, c + 3 + 0, z + 18 + 0)
  refine T_go (S' := (656, [(6, .inl (r23.1)), (5, .inl (r22.1)), (4, .inl (x4)), (3, .inr (.inr (161))), (2, .inr (.inr (122))), (1, .inr (.inr (2))), (0, .inr (.inr (1)))], [.inr (.inr (122))], hp r23.2, c + 3 + 0, z + 18 + 0)) 2 rfl ?_
  refine TL_cv (i := iI) (as := [.inr (.inr (122))]) (rest := []) (st := [.inr (.inr (122))]) rfl rfl rfl ⟨by omega, by omega, lb rfl, lb rfl⟩ (fun _ h => Ew_le (lb rfl) (s_X12_thrown 122 r23.2 _ h)) (fun _ r24 => ?_)
  show Snd false (some (N, xs)) _ _ _ (cN iI) (659, [(6, .inl (r23.1)), (5, .inl (r22.1)), (4, .inl (x4)), (3, .inr (.inr (161))), (2, .inr (.inr (122))), (1, .inr (.inr (2))), (0, .inr (.inr (1)))], [.inl (r24.1)], hp r24.2, c + 3 + 0 + 0, z + 18 + 0 + 0)
  refine T_go (S' := (661, [(6, .inl (r23.1)), (5, .inl (r22.1)), (4, .inl (x4)), (3, .inr (.inr (161))), (2, .inr (.inr (122))), (1, .inr (.inr (2))), (0, .inr (.inr (1)))], [.inl (r22.1), .inl (r24.1)], hp r24.2, c + 3 + 0 + 0, z + 18 + 0 + 0)) 1 rfl ?_
  refine TL_icmp_eq 666 rfl rfl (fun _ => ?_) (fun _ => ?_)
  · refine T_go (S' := (668, [(6, .inl (r23.1)), (5, .inl (r22.1)), (4, .inl (x4)), (3, .inr (.inr (161))), (2, .inr (.inr (122))), (1, .inr (.inr (2))), (0, .inr (.inr (1)))], [.inl (r22.1)], hp r24.2, c + 3 + 0 + 0, z + 18 + 0 + 0)) 1 rfl ?_
    refine TL_if_ne 683 rfl rfl (fun _ => ?_) (fun _ => ?_)
    · refine T_go (S' := (23, [(4, .inl ((x4 + (5 : Int32)))), (6, .inl (r23.1)), (5, .inl (r22.1)), (3, .inr (.inr (161))), (2, .inr (.inr (122))), (1, .inr (.inr (2))), (0, .inr (.inr (1)))], [], hp r24.2, c + 3 + 0 + 0, z + 18 + 0 + 0)) 3 rfl ?_
      refine T_loc (ls' := [(4, .inl ((x4 + (5 : Int32)))), (3, .inr (.inr (161))), (2, .inr (.inr (122))), (1, .inr (.inr (2))), (0, .inr (.inr (1)))]) [0, 3, 4, 5, 6] rfl ?_
      exact ih (x4 + (5 : Int32)) r24.2 (c + 3 + 0 + 0) (z + 18 + 0 + 0) (by omega) (by omega)
    · refine T_go (S' := (673, [(6, .inl (r23.1)), (5, .inl (r22.1)), (4, .inl (x4)), (3, .inr (.inr (161))), (2, .inr (.inr (122))), (1, .inr (.inr (2))), (0, .inr (.inr (1)))], [.inl ((0 : Int32)), .inr (.inr (161))], hp r24.2, c + 3 + 0 + 0, z + 18 + 0 + 0)) 2 rfl ?_
      refine TL_lald rfl (fun _ => ?_)
      refine T_go (S' := (678, [(6, .inl (r23.1)), (5, .inl (r22.1)), (4, .inl (x4)), (3, .inr (.inr (161))), (2, .inr (.inr (122))), (1, .inr (.inr (2))), (0, .inr (.inr (1)))], [.inl ((lg_cmp (r24.2.2 161 (0 : Int32).toNatClampNeg) r23.1.toInt64))], hp r24.2, c + 3 + 0 + 0, z + 18 + 0 + 0)) 3 rfl ?_
      refine TL_if_eq 683 rfl rfl (fun _ => ?_) (fun _ => ?_)
      · refine T_go (S' := (23, [(4, .inl ((x4 + (5 : Int32)))), (6, .inl (r23.1)), (5, .inl (r22.1)), (3, .inr (.inr (161))), (2, .inr (.inr (122))), (1, .inr (.inr (2))), (0, .inr (.inr (1)))], [], hp r24.2, c + 3 + 0 + 0, z + 18 + 0 + 0)) 3 rfl ?_
        refine T_loc (ls' := [(4, .inl ((x4 + (5 : Int32)))), (3, .inr (.inr (161))), (2, .inr (.inr (122))), (1, .inr (.inr (2))), (0, .inr (.inr (1)))]) [0, 3, 4, 5, 6] rfl ?_
        exact ih (x4 + (5 : Int32)) r24.2 (c + 3 + 0 + 0) (z + 18 + 0 + 0) (by omega) (by omega)
      · refine T_go (S' := (682, [(6, .inl (r23.1)), (5, .inl (r22.1)), (4, .inl (x4)), (3, .inr (.inr (161))), (2, .inr (.inr (122))), (1, .inr (.inr (2))), (0, .inr (.inr (1)))], [.inl ((0 : Int32))], hp r24.2, c + 3 + 0 + 0, z + 18 + 0 + 0)) 1 rfl ?_
        exact T_chkr rfl
  · refine T_go (S' := (665, [(6, .inl (r23.1)), (5, .inl (r22.1)), (4, .inl (x4)), (3, .inr (.inr (161))), (2, .inr (.inr (122))), (1, .inr (.inr (2))), (0, .inr (.inr (1)))], [.inl ((0 : Int32))], hp r24.2, c + 3 + 0 + 0, z + 18 + 0 + 0)) 1 rfl ?_
    exact T_chkr rfl

set_option maxRecDepth 20000 in
def f_law_8 (N : Nat) (xs : Nat → Int32) (rec : Int32 → eMem → Option (Int32 × eMem)) (x4 : Int32) (σ : eMem) : Option (Int32 × eMem) :=
  if eix (x4 + (1 : Int32)) N = true then
    Option.bind (f_L_pump 2 (xs (x4 + (1 : Int32)).toNatClampNeg) 161 σ) (fun r25 =>
      if eix (x4 + (1 : Int32)) N = true then
        if (KH 122).1 = 10 then
          Option.bind (f_X12_pump 122 (xs (x4 + (1 : Int32)).toNatClampNeg) r25.2) (fun r26 =>
            if (KH 122).1 = 10 then
              Option.bind (f_X12_thrown 122 r26.2) (fun r27 =>
                if r27.1 = r25.1 then
                  if ¬ r25.1 = (0 : Int32) then
                    rec (x4 + (5 : Int32)) r27.2
                  else
                    if (KH 161).1 = 12 ∧ eix (0 : Int32) (KH 161).2 = true then
                      if (lg_cmp (r27.2.2 161 (0 : Int32).toNatClampNeg) r26.1.toInt64) = (0 : Int32) then
                        rec (x4 + (5 : Int32)) r27.2
                      else
                        if eB (0 : Int32) = true then some ((0 : Int32), r27.2) else none
                    else none
                else
                  if eB (0 : Int32) = true then some ((0 : Int32), r27.2) else none
                )
            else none
            )
        else none
      else none
      )
  else none

set_option maxHeartbeats 40000000 in
set_option maxRecDepth 20000 in
theorem s_law_8 (N : Nat) (xs : Nat → Int32) (rec : Int32 → eMem → Option (Int32 × eMem)) (C Z : Nat) (ih : ∀ (x4 : Int32) (σ : eMem) (c z : Nat), c ≤ C → z ≤ Z → Snd false (some (N, xs)) 23 m_L_law (rec x4 σ) (cN iI) (23, [(4, .inl (x4)), (3, .inr (.inr (161))), (2, .inr (.inr (122))), (1, .inr (.inr (2))), (0, .inr (.inr (1)))], [], hp σ, c, z)) (x4 : Int32) (σ : eMem) (c z : Nat) (hc : c + 10 ≤ C) (hz : z + 100 ≤ Z) (hC : C ≤ 601024) (hZ : Z ≤ 7293034) : Snd false (some (N, xs)) 23 m_L_law (f_law_8 N xs rec x4 σ) (cN iI) (686, [(4, .inl (x4)), (3, .inr (.inr (161))), (2, .inr (.inr (122))), (1, .inr (.inr (2))), (0, .inr (.inr (1)))], [], hp σ, c, z) := by
  unfold f_law_8
  refine T_go (S' := (692, [(4, .inl (x4)), (3, .inr (.inr (161))), (2, .inr (.inr (122))), (1, .inr (.inr (2))), (0, .inr (.inr (1)))], [.inl ((x4 + (1 : Int32))), .inr (.inr (1)), .inr (.inr (2))], hp σ, c, z)) 5 rfl ?_
  refine TL_iald rfl (fun _ => ?_)
  refine T_go (S' := (694, [(4, .inl (x4)), (3, .inr (.inr (161))), (2, .inr (.inr (122))), (1, .inr (.inr (2))), (0, .inr (.inr (1)))], [.inr (.inr (161)), .inl ((xs (x4 + (1 : Int32)).toNatClampNeg)), .inr (.inr (2))], hp σ, c, z)) 1 rfl ?_
  refine TL_cs (i := iI) (as := [.inr (.inr (2)), .inl ((xs (x4 + (1 : Int32)).toNatClampNeg)), .inr (.inr (161))]) (rest := []) (st := [.inr (.inr (161)), .inl ((xs (x4 + (1 : Int32)).toNatClampNeg)), .inr (.inr (2))]) rfl (lb rfl) rfl rfl ⟨by omega, by omega, lb rfl, lb rfl⟩ (fun _ h => Ew_le (lb rfl) (s_L_pump 2 (xs (x4 + (1 : Int32)).toNatClampNeg) 161 σ _ h)) (fun r25 => ?_)
  show Snd false (some (N, xs)) _ _ _ (cN iI) (697, [(4, .inl (x4)), (3, .inr (.inr (161))), (2, .inr (.inr (122))), (1, .inr (.inr (2))), (0, .inr (.inr (1)))], [.inl (r25.1)], hp r25.2, c + 1, z + 6)
  refine T_go (S' := (705, [(5, .inl (r25.1)), (4, .inl (x4)), (3, .inr (.inr (161))), (2, .inr (.inr (122))), (1, .inr (.inr (2))), (0, .inr (.inr (1)))], [.inl ((x4 + (1 : Int32))), .inr (.inr (1)), .inr (.inr (122))], hp r25.2, c + 1, z + 6)) 6 rfl ?_
  refine TL_iald rfl (fun _ => ?_)
  refine TL_cv (i := iI) (as := [.inr (.inr (122)), .inl ((xs (x4 + (1 : Int32)).toNatClampNeg))]) (rest := []) (st := [.inl ((xs (x4 + (1 : Int32)).toNatClampNeg)), .inr (.inr (122))]) rfl rfl rfl ⟨by omega, by omega, lb rfl, lb rfl⟩ (fun _ h => Ew_le (lb rfl) (s_X12_pump 122 (xs (x4 + (1 : Int32)).toNatClampNeg) r25.2 _ h)) (fun _ r26 => ?_)
  show Snd false (some (N, xs)) _ _ _ (cN iI) (709, [(5, .inl (r25.1)), (4, .inl (x4)), (3, .inr (.inr (161))), (2, .inr (.inr (122))), (1, .inr (.inr (2))), (0, .inr (.inr (1)))], [.inl (r26.1)], hp r26.2, c + 1 + 0, z + 6 + 0)
  refine T_go (S' := (712, [(6, .inl (r26.1)), (5, .inl (r25.1)), (4, .inl (x4)), (3, .inr (.inr (161))), (2, .inr (.inr (122))), (1, .inr (.inr (2))), (0, .inr (.inr (1)))], [.inr (.inr (122))], hp r26.2, c + 1 + 0, z + 6 + 0)) 2 rfl ?_
  refine TL_cv (i := iI) (as := [.inr (.inr (122))]) (rest := []) (st := [.inr (.inr (122))]) rfl rfl rfl ⟨by omega, by omega, lb rfl, lb rfl⟩ (fun _ h => Ew_le (lb rfl) (s_X12_thrown 122 r26.2 _ h)) (fun _ r27 => ?_)
  show Snd false (some (N, xs)) _ _ _ (cN iI) (715, [(6, .inl (r26.1)), (5, .inl (r25.1)), (4, .inl (x4)), (3, .inr (.inr (161))), (2, .inr (.inr (122))), (1, .inr (.inr (2))), (0, .inr (.inr (1)))], [.inl (r27.1)], hp r27.2, c + 1 + 0 + 0, z + 6 + 0 + 0)
  refine T_go (S' := (717, [(6, .inl (r26.1)), (5, .inl (r25.1)), (4, .inl (x4)), (3, .inr (.inr (161))), (2, .inr (.inr (122))), (1, .inr (.inr (2))), (0, .inr (.inr (1)))], [.inl (r25.1), .inl (r27.1)], hp r27.2, c + 1 + 0 + 0, z + 6 + 0 + 0)) 1 rfl ?_
  refine TL_icmp_eq 722 rfl rfl (fun _ => ?_) (fun _ => ?_)
  · refine T_go (S' := (724, [(6, .inl (r26.1)), (5, .inl (r25.1)), (4, .inl (x4)), (3, .inr (.inr (161))), (2, .inr (.inr (122))), (1, .inr (.inr (2))), (0, .inr (.inr (1)))], [.inl (r25.1)], hp r27.2, c + 1 + 0 + 0, z + 6 + 0 + 0)) 1 rfl ?_
    refine TL_if_ne 739 rfl rfl (fun _ => ?_) (fun _ => ?_)
    · refine T_go (S' := (23, [(4, .inl ((x4 + (5 : Int32)))), (6, .inl (r26.1)), (5, .inl (r25.1)), (3, .inr (.inr (161))), (2, .inr (.inr (122))), (1, .inr (.inr (2))), (0, .inr (.inr (1)))], [], hp r27.2, c + 1 + 0 + 0, z + 6 + 0 + 0)) 3 rfl ?_
      refine T_loc (ls' := [(4, .inl ((x4 + (5 : Int32)))), (3, .inr (.inr (161))), (2, .inr (.inr (122))), (1, .inr (.inr (2))), (0, .inr (.inr (1)))]) [0, 3, 4, 5, 6] rfl ?_
      exact ih (x4 + (5 : Int32)) r27.2 (c + 1 + 0 + 0) (z + 6 + 0 + 0) (by omega) (by omega)
    · refine T_go (S' := (729, [(6, .inl (r26.1)), (5, .inl (r25.1)), (4, .inl (x4)), (3, .inr (.inr (161))), (2, .inr (.inr (122))), (1, .inr (.inr (2))), (0, .inr (.inr (1)))], [.inl ((0 : Int32)), .inr (.inr (161))], hp r27.2, c + 1 + 0 + 0, z + 6 + 0 + 0)) 2 rfl ?_
      refine TL_lald rfl (fun _ => ?_)
      refine T_go (S' := (734, [(6, .inl (r26.1)), (5, .inl (r25.1)), (4, .inl (x4)), (3, .inr (.inr (161))), (2, .inr (.inr (122))), (1, .inr (.inr (2))), (0, .inr (.inr (1)))], [.inl ((lg_cmp (r27.2.2 161 (0 : Int32).toNatClampNeg) r26.1.toInt64))], hp r27.2, c + 1 + 0 + 0, z + 6 + 0 + 0)) 3 rfl ?_
      refine TL_if_eq 739 rfl rfl (fun _ => ?_) (fun _ => ?_)
      · refine T_go (S' := (23, [(4, .inl ((x4 + (5 : Int32)))), (6, .inl (r26.1)), (5, .inl (r25.1)), (3, .inr (.inr (161))), (2, .inr (.inr (122))), (1, .inr (.inr (2))), (0, .inr (.inr (1)))], [], hp r27.2, c + 1 + 0 + 0, z + 6 + 0 + 0)) 3 rfl ?_
        refine T_loc (ls' := [(4, .inl ((x4 + (5 : Int32)))), (3, .inr (.inr (161))), (2, .inr (.inr (122))), (1, .inr (.inr (2))), (0, .inr (.inr (1)))]) [0, 3, 4, 5, 6] rfl ?_
        exact ih (x4 + (5 : Int32)) r27.2 (c + 1 + 0 + 0) (z + 6 + 0 + 0) (by omega) (by omega)
      · refine T_go (S' := (738, [(6, .inl (r26.1)), (5, .inl (r25.1)), (4, .inl (x4)), (3, .inr (.inr (161))), (2, .inr (.inr (122))), (1, .inr (.inr (2))), (0, .inr (.inr (1)))], [.inl ((0 : Int32))], hp r27.2, c + 1 + 0 + 0, z + 6 + 0 + 0)) 1 rfl ?_
        exact T_chkr rfl
  · refine T_go (S' := (721, [(6, .inl (r26.1)), (5, .inl (r25.1)), (4, .inl (x4)), (3, .inr (.inr (161))), (2, .inr (.inr (122))), (1, .inr (.inr (2))), (0, .inr (.inr (1)))], [.inl ((0 : Int32))], hp r27.2, c + 1 + 0 + 0, z + 6 + 0 + 0)) 1 rfl ?_
    exact T_chkr rfl

set_option maxRecDepth 20000 in
def f_law_9 (N : Nat) (xs : Nat → Int32) (rec : Int32 → eMem → Option (Int32 × eMem)) (x4 : Int32) (σ : eMem) : Option (Int32 × eMem) :=
  if eix (x4 + (1 : Int32)) N = true then
    if eix (x4 + (2 : Int32)) N = true then
      Option.bind (f_L_queued 2 (xs (x4 + (1 : Int32)).toNatClampNeg) (xs (x4 + (2 : Int32)).toNatClampNeg) 161 σ) (fun r28 =>
        if eix (x4 + (1 : Int32)) N = true then
          if eix (x4 + (2 : Int32)) N = true then
            if (KH 122).1 = 10 then
              Option.bind (f_X12_queued 122 (xs (x4 + (1 : Int32)).toNatClampNeg) (xs (x4 + (2 : Int32)).toNatClampNeg) r28.2) (fun r29 =>
                if (KH 122).1 = 10 then
                  Option.bind (f_X12_thrown 122 r29.2) (fun r30 =>
                    if r30.1 = r28.1 then
                      if ¬ r28.1 = (0 : Int32) then
                        rec (x4 + (5 : Int32)) r30.2
                      else
                        if (KH 161).1 = 12 ∧ eix (0 : Int32) (KH 161).2 = true then
                          if (lg_cmp (r30.2.2 161 (0 : Int32).toNatClampNeg) r29.1.toInt64) = (0 : Int32) then
                            rec (x4 + (5 : Int32)) r30.2
                          else
                            if eB (0 : Int32) = true then some ((0 : Int32), r30.2) else none
                        else none
                    else
                      if eB (0 : Int32) = true then some ((0 : Int32), r30.2) else none
                    )
                else none
                )
            else none
          else none
        else none
        )
    else none
  else none

set_option maxHeartbeats 40000000 in
set_option maxRecDepth 20000 in
theorem s_law_9 (N : Nat) (xs : Nat → Int32) (rec : Int32 → eMem → Option (Int32 × eMem)) (C Z : Nat) (ih : ∀ (x4 : Int32) (σ : eMem) (c z : Nat), c ≤ C → z ≤ Z → Snd false (some (N, xs)) 23 m_L_law (rec x4 σ) (cN iI) (23, [(4, .inl (x4)), (3, .inr (.inr (161))), (2, .inr (.inr (122))), (1, .inr (.inr (2))), (0, .inr (.inr (1)))], [], hp σ, c, z)) (x4 : Int32) (σ : eMem) (c z : Nat) (hc : c + 10 ≤ C) (hz : z + 100 ≤ Z) (hC : C ≤ 601024) (hZ : Z ≤ 7293034) : Snd false (some (N, xs)) 23 m_L_law (f_law_9 N xs rec x4 σ) (cN iI) (742, [(4, .inl (x4)), (3, .inr (.inr (161))), (2, .inr (.inr (122))), (1, .inr (.inr (2))), (0, .inr (.inr (1)))], [], hp σ, c, z) := by
  unfold f_law_9
  refine T_go (S' := (748, [(4, .inl (x4)), (3, .inr (.inr (161))), (2, .inr (.inr (122))), (1, .inr (.inr (2))), (0, .inr (.inr (1)))], [.inl ((x4 + (1 : Int32))), .inr (.inr (1)), .inr (.inr (2))], hp σ, c, z)) 5 rfl ?_
  refine TL_iald rfl (fun _ => ?_)
  refine T_go (S' := (754, [(4, .inl (x4)), (3, .inr (.inr (161))), (2, .inr (.inr (122))), (1, .inr (.inr (2))), (0, .inr (.inr (1)))], [.inl ((x4 + (2 : Int32))), .inr (.inr (1)), .inl ((xs (x4 + (1 : Int32)).toNatClampNeg)), .inr (.inr (2))], hp σ, c, z)) 4 rfl ?_
  refine TL_iald rfl (fun _ => ?_)
  refine T_go (S' := (756, [(4, .inl (x4)), (3, .inr (.inr (161))), (2, .inr (.inr (122))), (1, .inr (.inr (2))), (0, .inr (.inr (1)))], [.inr (.inr (161)), .inl ((xs (x4 + (2 : Int32)).toNatClampNeg)), .inl ((xs (x4 + (1 : Int32)).toNatClampNeg)), .inr (.inr (2))], hp σ, c, z)) 1 rfl ?_
  refine TL_cs (i := iI) (as := [.inr (.inr (2)), .inl ((xs (x4 + (1 : Int32)).toNatClampNeg)), .inl ((xs (x4 + (2 : Int32)).toNatClampNeg)), .inr (.inr (161))]) (rest := []) (st := [.inr (.inr (161)), .inl ((xs (x4 + (2 : Int32)).toNatClampNeg)), .inl ((xs (x4 + (1 : Int32)).toNatClampNeg)), .inr (.inr (2))]) rfl (lb rfl) rfl rfl ⟨by omega, by omega, lb rfl, lb rfl⟩ (fun _ h => Ew_le (lb rfl) (s_L_queued 2 (xs (x4 + (1 : Int32)).toNatClampNeg) (xs (x4 + (2 : Int32)).toNatClampNeg) 161 σ _ h)) (fun r28 => ?_)
  show Snd false (some (N, xs)) _ _ _ (cN iI) (759, [(4, .inl (x4)), (3, .inr (.inr (161))), (2, .inr (.inr (122))), (1, .inr (.inr (2))), (0, .inr (.inr (1)))], [.inl (r28.1)], hp r28.2, c + 2, z + 12)
  refine T_go (S' := (767, [(5, .inl (r28.1)), (4, .inl (x4)), (3, .inr (.inr (161))), (2, .inr (.inr (122))), (1, .inr (.inr (2))), (0, .inr (.inr (1)))], [.inl ((x4 + (1 : Int32))), .inr (.inr (1)), .inr (.inr (122))], hp r28.2, c + 2, z + 12)) 6 rfl ?_
  refine TL_iald rfl (fun _ => ?_)
  refine T_go (S' := (773, [(5, .inl (r28.1)), (4, .inl (x4)), (3, .inr (.inr (161))), (2, .inr (.inr (122))), (1, .inr (.inr (2))), (0, .inr (.inr (1)))], [.inl ((x4 + (2 : Int32))), .inr (.inr (1)), .inl ((xs (x4 + (1 : Int32)).toNatClampNeg)), .inr (.inr (122))], hp r28.2, c + 2, z + 12)) 4 rfl ?_
  refine TL_iald rfl (fun _ => ?_)
  refine TL_cv (i := iI) (as := [.inr (.inr (122)), .inl ((xs (x4 + (1 : Int32)).toNatClampNeg)), .inl ((xs (x4 + (2 : Int32)).toNatClampNeg))]) (rest := []) (st := [.inl ((xs (x4 + (2 : Int32)).toNatClampNeg)), .inl ((xs (x4 + (1 : Int32)).toNatClampNeg)), .inr (.inr (122))]) rfl rfl rfl ⟨by omega, by omega, lb rfl, lb rfl⟩ (fun _ h => Ew_le (lb rfl) (s_X12_queued 122 (xs (x4 + (1 : Int32)).toNatClampNeg) (xs (x4 + (2 : Int32)).toNatClampNeg) r28.2 _ h)) (fun _ r29 => ?_)
  show Snd false (some (N, xs)) _ _ _ (cN iI) (777, [(5, .inl (r28.1)), (4, .inl (x4)), (3, .inr (.inr (161))), (2, .inr (.inr (122))), (1, .inr (.inr (2))), (0, .inr (.inr (1)))], [.inl (r29.1)], hp r29.2, c + 2 + 0, z + 12 + 0)
  refine T_go (S' := (780, [(6, .inl (r29.1)), (5, .inl (r28.1)), (4, .inl (x4)), (3, .inr (.inr (161))), (2, .inr (.inr (122))), (1, .inr (.inr (2))), (0, .inr (.inr (1)))], [.inr (.inr (122))], hp r29.2, c + 2 + 0, z + 12 + 0)) 2 rfl ?_
  refine TL_cv (i := iI) (as := [.inr (.inr (122))]) (rest := []) (st := [.inr (.inr (122))]) rfl rfl rfl ⟨by omega, by omega, lb rfl, lb rfl⟩ (fun _ h => Ew_le (lb rfl) (s_X12_thrown 122 r29.2 _ h)) (fun _ r30 => ?_)
  show Snd false (some (N, xs)) _ _ _ (cN iI) (783, [(6, .inl (r29.1)), (5, .inl (r28.1)), (4, .inl (x4)), (3, .inr (.inr (161))), (2, .inr (.inr (122))), (1, .inr (.inr (2))), (0, .inr (.inr (1)))], [.inl (r30.1)], hp r30.2, c + 2 + 0 + 0, z + 12 + 0 + 0)
  refine T_go (S' := (785, [(6, .inl (r29.1)), (5, .inl (r28.1)), (4, .inl (x4)), (3, .inr (.inr (161))), (2, .inr (.inr (122))), (1, .inr (.inr (2))), (0, .inr (.inr (1)))], [.inl (r28.1), .inl (r30.1)], hp r30.2, c + 2 + 0 + 0, z + 12 + 0 + 0)) 1 rfl ?_
  refine TL_icmp_eq 790 rfl rfl (fun _ => ?_) (fun _ => ?_)
  · refine T_go (S' := (792, [(6, .inl (r29.1)), (5, .inl (r28.1)), (4, .inl (x4)), (3, .inr (.inr (161))), (2, .inr (.inr (122))), (1, .inr (.inr (2))), (0, .inr (.inr (1)))], [.inl (r28.1)], hp r30.2, c + 2 + 0 + 0, z + 12 + 0 + 0)) 1 rfl ?_
    refine TL_if_ne 807 rfl rfl (fun _ => ?_) (fun _ => ?_)
    · refine T_go (S' := (23, [(4, .inl ((x4 + (5 : Int32)))), (6, .inl (r29.1)), (5, .inl (r28.1)), (3, .inr (.inr (161))), (2, .inr (.inr (122))), (1, .inr (.inr (2))), (0, .inr (.inr (1)))], [], hp r30.2, c + 2 + 0 + 0, z + 12 + 0 + 0)) 3 rfl ?_
      refine T_loc (ls' := [(4, .inl ((x4 + (5 : Int32)))), (3, .inr (.inr (161))), (2, .inr (.inr (122))), (1, .inr (.inr (2))), (0, .inr (.inr (1)))]) [0, 3, 4, 5, 6] rfl ?_
      exact ih (x4 + (5 : Int32)) r30.2 (c + 2 + 0 + 0) (z + 12 + 0 + 0) (by omega) (by omega)
    · refine T_go (S' := (797, [(6, .inl (r29.1)), (5, .inl (r28.1)), (4, .inl (x4)), (3, .inr (.inr (161))), (2, .inr (.inr (122))), (1, .inr (.inr (2))), (0, .inr (.inr (1)))], [.inl ((0 : Int32)), .inr (.inr (161))], hp r30.2, c + 2 + 0 + 0, z + 12 + 0 + 0)) 2 rfl ?_
      refine TL_lald rfl (fun _ => ?_)
      refine T_go (S' := (802, [(6, .inl (r29.1)), (5, .inl (r28.1)), (4, .inl (x4)), (3, .inr (.inr (161))), (2, .inr (.inr (122))), (1, .inr (.inr (2))), (0, .inr (.inr (1)))], [.inl ((lg_cmp (r30.2.2 161 (0 : Int32).toNatClampNeg) r29.1.toInt64))], hp r30.2, c + 2 + 0 + 0, z + 12 + 0 + 0)) 3 rfl ?_
      refine TL_if_eq 807 rfl rfl (fun _ => ?_) (fun _ => ?_)
      · refine T_go (S' := (23, [(4, .inl ((x4 + (5 : Int32)))), (6, .inl (r29.1)), (5, .inl (r28.1)), (3, .inr (.inr (161))), (2, .inr (.inr (122))), (1, .inr (.inr (2))), (0, .inr (.inr (1)))], [], hp r30.2, c + 2 + 0 + 0, z + 12 + 0 + 0)) 3 rfl ?_
        refine T_loc (ls' := [(4, .inl ((x4 + (5 : Int32)))), (3, .inr (.inr (161))), (2, .inr (.inr (122))), (1, .inr (.inr (2))), (0, .inr (.inr (1)))]) [0, 3, 4, 5, 6] rfl ?_
        exact ih (x4 + (5 : Int32)) r30.2 (c + 2 + 0 + 0) (z + 12 + 0 + 0) (by omega) (by omega)
      · refine T_go (S' := (806, [(6, .inl (r29.1)), (5, .inl (r28.1)), (4, .inl (x4)), (3, .inr (.inr (161))), (2, .inr (.inr (122))), (1, .inr (.inr (2))), (0, .inr (.inr (1)))], [.inl ((0 : Int32))], hp r30.2, c + 2 + 0 + 0, z + 12 + 0 + 0)) 1 rfl ?_
        exact T_chkr rfl
  · refine T_go (S' := (789, [(6, .inl (r29.1)), (5, .inl (r28.1)), (4, .inl (x4)), (3, .inr (.inr (161))), (2, .inr (.inr (122))), (1, .inr (.inr (2))), (0, .inr (.inr (1)))], [.inl ((0 : Int32))], hp r30.2, c + 2 + 0 + 0, z + 12 + 0 + 0)) 1 rfl ?_
    exact T_chkr rfl

set_option maxRecDepth 20000 in
def f_law_10 (N : Nat) (xs : Nat → Int32) (rec : Int32 → eMem → Option (Int32 × eMem)) (x4 : Int32) (σ : eMem) : Option (Int32 × eMem) :=
  if eix (x4 + (1 : Int32)) N = true then
    if eix (x4 + (2 : Int32)) N = true then
      Option.bind (f_L_stateOf 2 (xs (x4 + (1 : Int32)).toNatClampNeg) (xs (x4 + (2 : Int32)).toNatClampNeg) 161 σ) (fun r31 =>
        if eix (x4 + (1 : Int32)) N = true then
          if eix (x4 + (2 : Int32)) N = true then
            if (KH 122).1 = 10 then
              Option.bind (f_X12_stateOf 122 (xs (x4 + (1 : Int32)).toNatClampNeg) (xs (x4 + (2 : Int32)).toNatClampNeg) r31.2) (fun r32 =>
                if (KH 122).1 = 10 then
                  Option.bind (f_X12_thrown 122 r32.2) (fun r33 =>
                    if r33.1 = r31.1 then
                      if ¬ r31.1 = (0 : Int32) then
                        rec (x4 + (5 : Int32)) r33.2
                      else
                        if (KH 161).1 = 12 ∧ eix (0 : Int32) (KH 161).2 = true then
                          if (lg_cmp (r33.2.2 161 (0 : Int32).toNatClampNeg) r32.1.toInt64) = (0 : Int32) then
                            rec (x4 + (5 : Int32)) r33.2
                          else
                            if eB (0 : Int32) = true then some ((0 : Int32), r33.2) else none
                        else none
                    else
                      if eB (0 : Int32) = true then some ((0 : Int32), r33.2) else none
                    )
                else none
                )
            else none
          else none
        else none
        )
    else none
  else none

set_option maxHeartbeats 40000000 in
set_option maxRecDepth 20000 in
theorem s_law_10 (N : Nat) (xs : Nat → Int32) (rec : Int32 → eMem → Option (Int32 × eMem)) (C Z : Nat) (ih : ∀ (x4 : Int32) (σ : eMem) (c z : Nat), c ≤ C → z ≤ Z → Snd false (some (N, xs)) 23 m_L_law (rec x4 σ) (cN iI) (23, [(4, .inl (x4)), (3, .inr (.inr (161))), (2, .inr (.inr (122))), (1, .inr (.inr (2))), (0, .inr (.inr (1)))], [], hp σ, c, z)) (x4 : Int32) (σ : eMem) (c z : Nat) (hc : c + 10 ≤ C) (hz : z + 100 ≤ Z) (hC : C ≤ 601024) (hZ : Z ≤ 7293034) : Snd false (some (N, xs)) 23 m_L_law (f_law_10 N xs rec x4 σ) (cN iI) (810, [(4, .inl (x4)), (3, .inr (.inr (161))), (2, .inr (.inr (122))), (1, .inr (.inr (2))), (0, .inr (.inr (1)))], [], hp σ, c, z) := by
  unfold f_law_10
  refine T_go (S' := (816, [(4, .inl (x4)), (3, .inr (.inr (161))), (2, .inr (.inr (122))), (1, .inr (.inr (2))), (0, .inr (.inr (1)))], [.inl ((x4 + (1 : Int32))), .inr (.inr (1)), .inr (.inr (2))], hp σ, c, z)) 5 rfl ?_
  refine TL_iald rfl (fun _ => ?_)
  refine T_go (S' := (822, [(4, .inl (x4)), (3, .inr (.inr (161))), (2, .inr (.inr (122))), (1, .inr (.inr (2))), (0, .inr (.inr (1)))], [.inl ((x4 + (2 : Int32))), .inr (.inr (1)), .inl ((xs (x4 + (1 : Int32)).toNatClampNeg)), .inr (.inr (2))], hp σ, c, z)) 4 rfl ?_
  refine TL_iald rfl (fun _ => ?_)
  refine T_go (S' := (824, [(4, .inl (x4)), (3, .inr (.inr (161))), (2, .inr (.inr (122))), (1, .inr (.inr (2))), (0, .inr (.inr (1)))], [.inr (.inr (161)), .inl ((xs (x4 + (2 : Int32)).toNatClampNeg)), .inl ((xs (x4 + (1 : Int32)).toNatClampNeg)), .inr (.inr (2))], hp σ, c, z)) 1 rfl ?_
  refine TL_cs (i := iI) (as := [.inr (.inr (2)), .inl ((xs (x4 + (1 : Int32)).toNatClampNeg)), .inl ((xs (x4 + (2 : Int32)).toNatClampNeg)), .inr (.inr (161))]) (rest := []) (st := [.inr (.inr (161)), .inl ((xs (x4 + (2 : Int32)).toNatClampNeg)), .inl ((xs (x4 + (1 : Int32)).toNatClampNeg)), .inr (.inr (2))]) rfl (lb rfl) rfl rfl ⟨by omega, by omega, lb rfl, lb rfl⟩ (fun _ h => Ew_le (lb rfl) (s_L_stateOf 2 (xs (x4 + (1 : Int32)).toNatClampNeg) (xs (x4 + (2 : Int32)).toNatClampNeg) 161 σ _ h)) (fun r31 => ?_)
  show Snd false (some (N, xs)) _ _ _ (cN iI) (827, [(4, .inl (x4)), (3, .inr (.inr (161))), (2, .inr (.inr (122))), (1, .inr (.inr (2))), (0, .inr (.inr (1)))], [.inl (r31.1)], hp r31.2, c + 2, z + 12)
  refine T_go (S' := (835, [(5, .inl (r31.1)), (4, .inl (x4)), (3, .inr (.inr (161))), (2, .inr (.inr (122))), (1, .inr (.inr (2))), (0, .inr (.inr (1)))], [.inl ((x4 + (1 : Int32))), .inr (.inr (1)), .inr (.inr (122))], hp r31.2, c + 2, z + 12)) 6 rfl ?_
  refine TL_iald rfl (fun _ => ?_)
  refine T_go (S' := (841, [(5, .inl (r31.1)), (4, .inl (x4)), (3, .inr (.inr (161))), (2, .inr (.inr (122))), (1, .inr (.inr (2))), (0, .inr (.inr (1)))], [.inl ((x4 + (2 : Int32))), .inr (.inr (1)), .inl ((xs (x4 + (1 : Int32)).toNatClampNeg)), .inr (.inr (122))], hp r31.2, c + 2, z + 12)) 4 rfl ?_
  refine TL_iald rfl (fun _ => ?_)
  refine TL_cv (i := iI) (as := [.inr (.inr (122)), .inl ((xs (x4 + (1 : Int32)).toNatClampNeg)), .inl ((xs (x4 + (2 : Int32)).toNatClampNeg))]) (rest := []) (st := [.inl ((xs (x4 + (2 : Int32)).toNatClampNeg)), .inl ((xs (x4 + (1 : Int32)).toNatClampNeg)), .inr (.inr (122))]) rfl rfl rfl ⟨by omega, by omega, lb rfl, lb rfl⟩ (fun _ h => Ew_le (lb rfl) (s_X12_stateOf 122 (xs (x4 + (1 : Int32)).toNatClampNeg) (xs (x4 + (2 : Int32)).toNatClampNeg) r31.2 _ h)) (fun _ r32 => ?_)
  show Snd false (some (N, xs)) _ _ _ (cN iI) (845, [(5, .inl (r31.1)), (4, .inl (x4)), (3, .inr (.inr (161))), (2, .inr (.inr (122))), (1, .inr (.inr (2))), (0, .inr (.inr (1)))], [.inl (r32.1)], hp r32.2, c + 2 + 0, z + 12 + 0)
  refine T_go (S' := (848, [(6, .inl (r32.1)), (5, .inl (r31.1)), (4, .inl (x4)), (3, .inr (.inr (161))), (2, .inr (.inr (122))), (1, .inr (.inr (2))), (0, .inr (.inr (1)))], [.inr (.inr (122))], hp r32.2, c + 2 + 0, z + 12 + 0)) 2 rfl ?_
  refine TL_cv (i := iI) (as := [.inr (.inr (122))]) (rest := []) (st := [.inr (.inr (122))]) rfl rfl rfl ⟨by omega, by omega, lb rfl, lb rfl⟩ (fun _ h => Ew_le (lb rfl) (s_X12_thrown 122 r32.2 _ h)) (fun _ r33 => ?_)
  show Snd false (some (N, xs)) _ _ _ (cN iI) (851, [(6, .inl (r32.1)), (5, .inl (r31.1)), (4, .inl (x4)), (3, .inr (.inr (161))), (2, .inr (.inr (122))), (1, .inr (.inr (2))), (0, .inr (.inr (1)))], [.inl (r33.1)], hp r33.2, c + 2 + 0 + 0, z + 12 + 0 + 0)
  refine T_go (S' := (853, [(6, .inl (r32.1)), (5, .inl (r31.1)), (4, .inl (x4)), (3, .inr (.inr (161))), (2, .inr (.inr (122))), (1, .inr (.inr (2))), (0, .inr (.inr (1)))], [.inl (r31.1), .inl (r33.1)], hp r33.2, c + 2 + 0 + 0, z + 12 + 0 + 0)) 1 rfl ?_
  refine TL_icmp_eq 858 rfl rfl (fun _ => ?_) (fun _ => ?_)
  · refine T_go (S' := (860, [(6, .inl (r32.1)), (5, .inl (r31.1)), (4, .inl (x4)), (3, .inr (.inr (161))), (2, .inr (.inr (122))), (1, .inr (.inr (2))), (0, .inr (.inr (1)))], [.inl (r31.1)], hp r33.2, c + 2 + 0 + 0, z + 12 + 0 + 0)) 1 rfl ?_
    refine TL_if_ne 875 rfl rfl (fun _ => ?_) (fun _ => ?_)
    · refine T_go (S' := (23, [(4, .inl ((x4 + (5 : Int32)))), (6, .inl (r32.1)), (5, .inl (r31.1)), (3, .inr (.inr (161))), (2, .inr (.inr (122))), (1, .inr (.inr (2))), (0, .inr (.inr (1)))], [], hp r33.2, c + 2 + 0 + 0, z + 12 + 0 + 0)) 3 rfl ?_
      refine T_loc (ls' := [(4, .inl ((x4 + (5 : Int32)))), (3, .inr (.inr (161))), (2, .inr (.inr (122))), (1, .inr (.inr (2))), (0, .inr (.inr (1)))]) [0, 3, 4, 5, 6] rfl ?_
      exact ih (x4 + (5 : Int32)) r33.2 (c + 2 + 0 + 0) (z + 12 + 0 + 0) (by omega) (by omega)
    · refine T_go (S' := (865, [(6, .inl (r32.1)), (5, .inl (r31.1)), (4, .inl (x4)), (3, .inr (.inr (161))), (2, .inr (.inr (122))), (1, .inr (.inr (2))), (0, .inr (.inr (1)))], [.inl ((0 : Int32)), .inr (.inr (161))], hp r33.2, c + 2 + 0 + 0, z + 12 + 0 + 0)) 2 rfl ?_
      refine TL_lald rfl (fun _ => ?_)
      refine T_go (S' := (870, [(6, .inl (r32.1)), (5, .inl (r31.1)), (4, .inl (x4)), (3, .inr (.inr (161))), (2, .inr (.inr (122))), (1, .inr (.inr (2))), (0, .inr (.inr (1)))], [.inl ((lg_cmp (r33.2.2 161 (0 : Int32).toNatClampNeg) r32.1.toInt64))], hp r33.2, c + 2 + 0 + 0, z + 12 + 0 + 0)) 3 rfl ?_
      refine TL_if_eq 875 rfl rfl (fun _ => ?_) (fun _ => ?_)
      · refine T_go (S' := (23, [(4, .inl ((x4 + (5 : Int32)))), (6, .inl (r32.1)), (5, .inl (r31.1)), (3, .inr (.inr (161))), (2, .inr (.inr (122))), (1, .inr (.inr (2))), (0, .inr (.inr (1)))], [], hp r33.2, c + 2 + 0 + 0, z + 12 + 0 + 0)) 3 rfl ?_
        refine T_loc (ls' := [(4, .inl ((x4 + (5 : Int32)))), (3, .inr (.inr (161))), (2, .inr (.inr (122))), (1, .inr (.inr (2))), (0, .inr (.inr (1)))]) [0, 3, 4, 5, 6] rfl ?_
        exact ih (x4 + (5 : Int32)) r33.2 (c + 2 + 0 + 0) (z + 12 + 0 + 0) (by omega) (by omega)
      · refine T_go (S' := (874, [(6, .inl (r32.1)), (5, .inl (r31.1)), (4, .inl (x4)), (3, .inr (.inr (161))), (2, .inr (.inr (122))), (1, .inr (.inr (2))), (0, .inr (.inr (1)))], [.inl ((0 : Int32))], hp r33.2, c + 2 + 0 + 0, z + 12 + 0 + 0)) 1 rfl ?_
        exact T_chkr rfl
  · refine T_go (S' := (857, [(6, .inl (r32.1)), (5, .inl (r31.1)), (4, .inl (x4)), (3, .inr (.inr (161))), (2, .inr (.inr (122))), (1, .inr (.inr (2))), (0, .inr (.inr (1)))], [.inl ((0 : Int32))], hp r33.2, c + 2 + 0 + 0, z + 12 + 0 + 0)) 1 rfl ?_
    exact T_chkr rfl

set_option maxRecDepth 20000 in
def f_law_11 (N : Nat) (xs : Nat → Int32) (rec : Int32 → eMem → Option (Int32 × eMem)) (x4 : Int32) (σ : eMem) : Option (Int32 × eMem) :=
  if eix (x4 + (1 : Int32)) N = true then
    if eix (x4 + (2 : Int32)) N = true then
      Option.bind (f_L_valueIn 2 (xs (x4 + (1 : Int32)).toNatClampNeg) (xs (x4 + (2 : Int32)).toNatClampNeg) 161 σ) (fun r34 =>
        if eix (x4 + (1 : Int32)) N = true then
          if eix (x4 + (2 : Int32)) N = true then
            if (KH 122).1 = 10 then
              Option.bind (f_X12_valueIn 122 (xs (x4 + (1 : Int32)).toNatClampNeg) (xs (x4 + (2 : Int32)).toNatClampNeg) r34.2) (fun r35 =>
                if (KH 122).1 = 10 then
                  Option.bind (f_X12_thrown 122 r35.2) (fun r36 =>
                    if r36.1 = r34.1 then
                      if ¬ r34.1 = (0 : Int32) then
                        rec (x4 + (5 : Int32)) r36.2
                      else
                        if (KH 161).1 = 12 ∧ eix (0 : Int32) (KH 161).2 = true then
                          if (lg_cmp (r36.2.2 161 (0 : Int32).toNatClampNeg) r35.1.toInt64) = (0 : Int32) then
                            rec (x4 + (5 : Int32)) r36.2
                          else
                            if eB (0 : Int32) = true then some ((0 : Int32), r36.2) else none
                        else none
                    else
                      if eB (0 : Int32) = true then some ((0 : Int32), r36.2) else none
                    )
                else none
                )
            else none
          else none
        else none
        )
    else none
  else none

set_option maxHeartbeats 40000000 in
set_option maxRecDepth 20000 in
theorem s_law_11 (N : Nat) (xs : Nat → Int32) (rec : Int32 → eMem → Option (Int32 × eMem)) (C Z : Nat) (ih : ∀ (x4 : Int32) (σ : eMem) (c z : Nat), c ≤ C → z ≤ Z → Snd false (some (N, xs)) 23 m_L_law (rec x4 σ) (cN iI) (23, [(4, .inl (x4)), (3, .inr (.inr (161))), (2, .inr (.inr (122))), (1, .inr (.inr (2))), (0, .inr (.inr (1)))], [], hp σ, c, z)) (x4 : Int32) (σ : eMem) (c z : Nat) (hc : c + 10 ≤ C) (hz : z + 100 ≤ Z) (hC : C ≤ 601024) (hZ : Z ≤ 7293034) : Snd false (some (N, xs)) 23 m_L_law (f_law_11 N xs rec x4 σ) (cN iI) (878, [(4, .inl (x4)), (3, .inr (.inr (161))), (2, .inr (.inr (122))), (1, .inr (.inr (2))), (0, .inr (.inr (1)))], [], hp σ, c, z) := by
  unfold f_law_11
  refine T_go (S' := (884, [(4, .inl (x4)), (3, .inr (.inr (161))), (2, .inr (.inr (122))), (1, .inr (.inr (2))), (0, .inr (.inr (1)))], [.inl ((x4 + (1 : Int32))), .inr (.inr (1)), .inr (.inr (2))], hp σ, c, z)) 5 rfl ?_
  refine TL_iald rfl (fun _ => ?_)
  refine T_go (S' := (890, [(4, .inl (x4)), (3, .inr (.inr (161))), (2, .inr (.inr (122))), (1, .inr (.inr (2))), (0, .inr (.inr (1)))], [.inl ((x4 + (2 : Int32))), .inr (.inr (1)), .inl ((xs (x4 + (1 : Int32)).toNatClampNeg)), .inr (.inr (2))], hp σ, c, z)) 4 rfl ?_
  refine TL_iald rfl (fun _ => ?_)
  refine T_go (S' := (892, [(4, .inl (x4)), (3, .inr (.inr (161))), (2, .inr (.inr (122))), (1, .inr (.inr (2))), (0, .inr (.inr (1)))], [.inr (.inr (161)), .inl ((xs (x4 + (2 : Int32)).toNatClampNeg)), .inl ((xs (x4 + (1 : Int32)).toNatClampNeg)), .inr (.inr (2))], hp σ, c, z)) 1 rfl ?_
  refine TL_cs (i := iI) (as := [.inr (.inr (2)), .inl ((xs (x4 + (1 : Int32)).toNatClampNeg)), .inl ((xs (x4 + (2 : Int32)).toNatClampNeg)), .inr (.inr (161))]) (rest := []) (st := [.inr (.inr (161)), .inl ((xs (x4 + (2 : Int32)).toNatClampNeg)), .inl ((xs (x4 + (1 : Int32)).toNatClampNeg)), .inr (.inr (2))]) rfl (lb rfl) rfl rfl ⟨by omega, by omega, lb rfl, lb rfl⟩ (fun _ h => Ew_le (lb rfl) (s_L_valueIn 2 (xs (x4 + (1 : Int32)).toNatClampNeg) (xs (x4 + (2 : Int32)).toNatClampNeg) 161 σ _ h)) (fun r34 => ?_)
  show Snd false (some (N, xs)) _ _ _ (cN iI) (895, [(4, .inl (x4)), (3, .inr (.inr (161))), (2, .inr (.inr (122))), (1, .inr (.inr (2))), (0, .inr (.inr (1)))], [.inl (r34.1)], hp r34.2, c + 2, z + 12)
  refine T_go (S' := (903, [(5, .inl (r34.1)), (4, .inl (x4)), (3, .inr (.inr (161))), (2, .inr (.inr (122))), (1, .inr (.inr (2))), (0, .inr (.inr (1)))], [.inl ((x4 + (1 : Int32))), .inr (.inr (1)), .inr (.inr (122))], hp r34.2, c + 2, z + 12)) 6 rfl ?_
  refine TL_iald rfl (fun _ => ?_)
  refine T_go (S' := (909, [(5, .inl (r34.1)), (4, .inl (x4)), (3, .inr (.inr (161))), (2, .inr (.inr (122))), (1, .inr (.inr (2))), (0, .inr (.inr (1)))], [.inl ((x4 + (2 : Int32))), .inr (.inr (1)), .inl ((xs (x4 + (1 : Int32)).toNatClampNeg)), .inr (.inr (122))], hp r34.2, c + 2, z + 12)) 4 rfl ?_
  refine TL_iald rfl (fun _ => ?_)
  refine TL_cv (i := iI) (as := [.inr (.inr (122)), .inl ((xs (x4 + (1 : Int32)).toNatClampNeg)), .inl ((xs (x4 + (2 : Int32)).toNatClampNeg))]) (rest := []) (st := [.inl ((xs (x4 + (2 : Int32)).toNatClampNeg)), .inl ((xs (x4 + (1 : Int32)).toNatClampNeg)), .inr (.inr (122))]) rfl rfl rfl ⟨by omega, by omega, lb rfl, lb rfl⟩ (fun _ h => Ew_le (lb rfl) (s_X12_valueIn 122 (xs (x4 + (1 : Int32)).toNatClampNeg) (xs (x4 + (2 : Int32)).toNatClampNeg) r34.2 _ h)) (fun _ r35 => ?_)
  show Snd false (some (N, xs)) _ _ _ (cN iI) (913, [(5, .inl (r34.1)), (4, .inl (x4)), (3, .inr (.inr (161))), (2, .inr (.inr (122))), (1, .inr (.inr (2))), (0, .inr (.inr (1)))], [.inl (r35.1)], hp r35.2, c + 2 + 0, z + 12 + 0)
  refine T_go (S' := (916, [(6, .inl (r35.1)), (5, .inl (r34.1)), (4, .inl (x4)), (3, .inr (.inr (161))), (2, .inr (.inr (122))), (1, .inr (.inr (2))), (0, .inr (.inr (1)))], [.inr (.inr (122))], hp r35.2, c + 2 + 0, z + 12 + 0)) 2 rfl ?_
  refine TL_cv (i := iI) (as := [.inr (.inr (122))]) (rest := []) (st := [.inr (.inr (122))]) rfl rfl rfl ⟨by omega, by omega, lb rfl, lb rfl⟩ (fun _ h => Ew_le (lb rfl) (s_X12_thrown 122 r35.2 _ h)) (fun _ r36 => ?_)
  show Snd false (some (N, xs)) _ _ _ (cN iI) (919, [(6, .inl (r35.1)), (5, .inl (r34.1)), (4, .inl (x4)), (3, .inr (.inr (161))), (2, .inr (.inr (122))), (1, .inr (.inr (2))), (0, .inr (.inr (1)))], [.inl (r36.1)], hp r36.2, c + 2 + 0 + 0, z + 12 + 0 + 0)
  refine T_go (S' := (921, [(6, .inl (r35.1)), (5, .inl (r34.1)), (4, .inl (x4)), (3, .inr (.inr (161))), (2, .inr (.inr (122))), (1, .inr (.inr (2))), (0, .inr (.inr (1)))], [.inl (r34.1), .inl (r36.1)], hp r36.2, c + 2 + 0 + 0, z + 12 + 0 + 0)) 1 rfl ?_
  refine TL_icmp_eq 926 rfl rfl (fun _ => ?_) (fun _ => ?_)
  · refine T_go (S' := (928, [(6, .inl (r35.1)), (5, .inl (r34.1)), (4, .inl (x4)), (3, .inr (.inr (161))), (2, .inr (.inr (122))), (1, .inr (.inr (2))), (0, .inr (.inr (1)))], [.inl (r34.1)], hp r36.2, c + 2 + 0 + 0, z + 12 + 0 + 0)) 1 rfl ?_
    refine TL_if_ne 943 rfl rfl (fun _ => ?_) (fun _ => ?_)
    · refine T_go (S' := (23, [(4, .inl ((x4 + (5 : Int32)))), (6, .inl (r35.1)), (5, .inl (r34.1)), (3, .inr (.inr (161))), (2, .inr (.inr (122))), (1, .inr (.inr (2))), (0, .inr (.inr (1)))], [], hp r36.2, c + 2 + 0 + 0, z + 12 + 0 + 0)) 3 rfl ?_
      refine T_loc (ls' := [(4, .inl ((x4 + (5 : Int32)))), (3, .inr (.inr (161))), (2, .inr (.inr (122))), (1, .inr (.inr (2))), (0, .inr (.inr (1)))]) [0, 3, 4, 5, 6] rfl ?_
      exact ih (x4 + (5 : Int32)) r36.2 (c + 2 + 0 + 0) (z + 12 + 0 + 0) (by omega) (by omega)
    · refine T_go (S' := (933, [(6, .inl (r35.1)), (5, .inl (r34.1)), (4, .inl (x4)), (3, .inr (.inr (161))), (2, .inr (.inr (122))), (1, .inr (.inr (2))), (0, .inr (.inr (1)))], [.inl ((0 : Int32)), .inr (.inr (161))], hp r36.2, c + 2 + 0 + 0, z + 12 + 0 + 0)) 2 rfl ?_
      refine TL_lald rfl (fun _ => ?_)
      refine T_go (S' := (938, [(6, .inl (r35.1)), (5, .inl (r34.1)), (4, .inl (x4)), (3, .inr (.inr (161))), (2, .inr (.inr (122))), (1, .inr (.inr (2))), (0, .inr (.inr (1)))], [.inl ((lg_cmp (r36.2.2 161 (0 : Int32).toNatClampNeg) r35.1.toInt64))], hp r36.2, c + 2 + 0 + 0, z + 12 + 0 + 0)) 3 rfl ?_
      refine TL_if_eq 943 rfl rfl (fun _ => ?_) (fun _ => ?_)
      · refine T_go (S' := (23, [(4, .inl ((x4 + (5 : Int32)))), (6, .inl (r35.1)), (5, .inl (r34.1)), (3, .inr (.inr (161))), (2, .inr (.inr (122))), (1, .inr (.inr (2))), (0, .inr (.inr (1)))], [], hp r36.2, c + 2 + 0 + 0, z + 12 + 0 + 0)) 3 rfl ?_
        refine T_loc (ls' := [(4, .inl ((x4 + (5 : Int32)))), (3, .inr (.inr (161))), (2, .inr (.inr (122))), (1, .inr (.inr (2))), (0, .inr (.inr (1)))]) [0, 3, 4, 5, 6] rfl ?_
        exact ih (x4 + (5 : Int32)) r36.2 (c + 2 + 0 + 0) (z + 12 + 0 + 0) (by omega) (by omega)
      · refine T_go (S' := (942, [(6, .inl (r35.1)), (5, .inl (r34.1)), (4, .inl (x4)), (3, .inr (.inr (161))), (2, .inr (.inr (122))), (1, .inr (.inr (2))), (0, .inr (.inr (1)))], [.inl ((0 : Int32))], hp r36.2, c + 2 + 0 + 0, z + 12 + 0 + 0)) 1 rfl ?_
        exact T_chkr rfl
  · refine T_go (S' := (925, [(6, .inl (r35.1)), (5, .inl (r34.1)), (4, .inl (x4)), (3, .inr (.inr (161))), (2, .inr (.inr (122))), (1, .inr (.inr (2))), (0, .inr (.inr (1)))], [.inl ((0 : Int32))], hp r36.2, c + 2 + 0 + 0, z + 12 + 0 + 0)) 1 rfl ?_
    exact T_chkr rfl

set_option maxRecDepth 20000 in
def f_law_12 (N : Nat) (xs : Nat → Int32) (rec : Int32 → eMem → Option (Int32 × eMem)) (x4 : Int32) (σ : eMem) : Option (Int32 × eMem) :=
  if eix (x4 + (1 : Int32)) N = true then
    Option.bind (f_L_home 2 (xs (x4 + (1 : Int32)).toNatClampNeg) 161 σ) (fun r37 =>
      if eix (x4 + (1 : Int32)) N = true then
        if (KH 122).1 = 10 then
          Option.bind (f_X12_home 122 (xs (x4 + (1 : Int32)).toNatClampNeg) r37.2) (fun r38 =>
            if (KH 122).1 = 10 then
              Option.bind (f_X12_thrown 122 r38.2) (fun r39 =>
                if r39.1 = r37.1 then
                  if ¬ r37.1 = (0 : Int32) then
                    rec (x4 + (5 : Int32)) r39.2
                  else
                    if (KH 161).1 = 12 ∧ eix (0 : Int32) (KH 161).2 = true then
                      if (lg_cmp (r39.2.2 161 (0 : Int32).toNatClampNeg) r38.1.toInt64) = (0 : Int32) then
                        rec (x4 + (5 : Int32)) r39.2
                      else
                        if eB (0 : Int32) = true then some ((0 : Int32), r39.2) else none
                    else none
                else
                  if eB (0 : Int32) = true then some ((0 : Int32), r39.2) else none
                )
            else none
            )
        else none
      else none
      )
  else none

set_option maxHeartbeats 40000000 in
set_option maxRecDepth 20000 in
theorem s_law_12 (N : Nat) (xs : Nat → Int32) (rec : Int32 → eMem → Option (Int32 × eMem)) (C Z : Nat) (ih : ∀ (x4 : Int32) (σ : eMem) (c z : Nat), c ≤ C → z ≤ Z → Snd false (some (N, xs)) 23 m_L_law (rec x4 σ) (cN iI) (23, [(4, .inl (x4)), (3, .inr (.inr (161))), (2, .inr (.inr (122))), (1, .inr (.inr (2))), (0, .inr (.inr (1)))], [], hp σ, c, z)) (x4 : Int32) (σ : eMem) (c z : Nat) (hc : c + 10 ≤ C) (hz : z + 100 ≤ Z) (hC : C ≤ 601024) (hZ : Z ≤ 7293034) : Snd false (some (N, xs)) 23 m_L_law (f_law_12 N xs rec x4 σ) (cN iI) (946, [(4, .inl (x4)), (3, .inr (.inr (161))), (2, .inr (.inr (122))), (1, .inr (.inr (2))), (0, .inr (.inr (1)))], [], hp σ, c, z) := by
  unfold f_law_12
  refine T_go (S' := (952, [(4, .inl (x4)), (3, .inr (.inr (161))), (2, .inr (.inr (122))), (1, .inr (.inr (2))), (0, .inr (.inr (1)))], [.inl ((x4 + (1 : Int32))), .inr (.inr (1)), .inr (.inr (2))], hp σ, c, z)) 5 rfl ?_
  refine TL_iald rfl (fun _ => ?_)
  refine T_go (S' := (954, [(4, .inl (x4)), (3, .inr (.inr (161))), (2, .inr (.inr (122))), (1, .inr (.inr (2))), (0, .inr (.inr (1)))], [.inr (.inr (161)), .inl ((xs (x4 + (1 : Int32)).toNatClampNeg)), .inr (.inr (2))], hp σ, c, z)) 1 rfl ?_
  refine TL_cs (i := iI) (as := [.inr (.inr (2)), .inl ((xs (x4 + (1 : Int32)).toNatClampNeg)), .inr (.inr (161))]) (rest := []) (st := [.inr (.inr (161)), .inl ((xs (x4 + (1 : Int32)).toNatClampNeg)), .inr (.inr (2))]) rfl (lb rfl) rfl rfl ⟨by omega, by omega, lb rfl, lb rfl⟩ (fun _ h => Ew_le (lb rfl) (s_L_home 2 (xs (x4 + (1 : Int32)).toNatClampNeg) 161 σ _ h)) (fun r37 => ?_)
  show Snd false (some (N, xs)) _ _ _ (cN iI) (957, [(4, .inl (x4)), (3, .inr (.inr (161))), (2, .inr (.inr (122))), (1, .inr (.inr (2))), (0, .inr (.inr (1)))], [.inl (r37.1)], hp r37.2, c + 1, z + 6)
  refine T_go (S' := (965, [(5, .inl (r37.1)), (4, .inl (x4)), (3, .inr (.inr (161))), (2, .inr (.inr (122))), (1, .inr (.inr (2))), (0, .inr (.inr (1)))], [.inl ((x4 + (1 : Int32))), .inr (.inr (1)), .inr (.inr (122))], hp r37.2, c + 1, z + 6)) 6 rfl ?_
  refine TL_iald rfl (fun _ => ?_)
  refine TL_cv (i := iI) (as := [.inr (.inr (122)), .inl ((xs (x4 + (1 : Int32)).toNatClampNeg))]) (rest := []) (st := [.inl ((xs (x4 + (1 : Int32)).toNatClampNeg)), .inr (.inr (122))]) rfl rfl rfl ⟨by omega, by omega, lb rfl, lb rfl⟩ (fun _ h => Ew_le (lb rfl) (s_X12_home 122 (xs (x4 + (1 : Int32)).toNatClampNeg) r37.2 _ h)) (fun _ r38 => ?_)
  show Snd false (some (N, xs)) _ _ _ (cN iI) (969, [(5, .inl (r37.1)), (4, .inl (x4)), (3, .inr (.inr (161))), (2, .inr (.inr (122))), (1, .inr (.inr (2))), (0, .inr (.inr (1)))], [.inl (r38.1)], hp r38.2, c + 1 + 0, z + 6 + 0)
  refine T_go (S' := (972, [(6, .inl (r38.1)), (5, .inl (r37.1)), (4, .inl (x4)), (3, .inr (.inr (161))), (2, .inr (.inr (122))), (1, .inr (.inr (2))), (0, .inr (.inr (1)))], [.inr (.inr (122))], hp r38.2, c + 1 + 0, z + 6 + 0)) 2 rfl ?_
  refine TL_cv (i := iI) (as := [.inr (.inr (122))]) (rest := []) (st := [.inr (.inr (122))]) rfl rfl rfl ⟨by omega, by omega, lb rfl, lb rfl⟩ (fun _ h => Ew_le (lb rfl) (s_X12_thrown 122 r38.2 _ h)) (fun _ r39 => ?_)
  show Snd false (some (N, xs)) _ _ _ (cN iI) (975, [(6, .inl (r38.1)), (5, .inl (r37.1)), (4, .inl (x4)), (3, .inr (.inr (161))), (2, .inr (.inr (122))), (1, .inr (.inr (2))), (0, .inr (.inr (1)))], [.inl (r39.1)], hp r39.2, c + 1 + 0 + 0, z + 6 + 0 + 0)
  refine T_go (S' := (977, [(6, .inl (r38.1)), (5, .inl (r37.1)), (4, .inl (x4)), (3, .inr (.inr (161))), (2, .inr (.inr (122))), (1, .inr (.inr (2))), (0, .inr (.inr (1)))], [.inl (r37.1), .inl (r39.1)], hp r39.2, c + 1 + 0 + 0, z + 6 + 0 + 0)) 1 rfl ?_
  refine TL_icmp_eq 982 rfl rfl (fun _ => ?_) (fun _ => ?_)
  · refine T_go (S' := (984, [(6, .inl (r38.1)), (5, .inl (r37.1)), (4, .inl (x4)), (3, .inr (.inr (161))), (2, .inr (.inr (122))), (1, .inr (.inr (2))), (0, .inr (.inr (1)))], [.inl (r37.1)], hp r39.2, c + 1 + 0 + 0, z + 6 + 0 + 0)) 1 rfl ?_
    refine TL_if_ne 999 rfl rfl (fun _ => ?_) (fun _ => ?_)
    · refine T_go (S' := (23, [(4, .inl ((x4 + (5 : Int32)))), (6, .inl (r38.1)), (5, .inl (r37.1)), (3, .inr (.inr (161))), (2, .inr (.inr (122))), (1, .inr (.inr (2))), (0, .inr (.inr (1)))], [], hp r39.2, c + 1 + 0 + 0, z + 6 + 0 + 0)) 3 rfl ?_
      refine T_loc (ls' := [(4, .inl ((x4 + (5 : Int32)))), (3, .inr (.inr (161))), (2, .inr (.inr (122))), (1, .inr (.inr (2))), (0, .inr (.inr (1)))]) [0, 3, 4, 5, 6] rfl ?_
      exact ih (x4 + (5 : Int32)) r39.2 (c + 1 + 0 + 0) (z + 6 + 0 + 0) (by omega) (by omega)
    · refine T_go (S' := (989, [(6, .inl (r38.1)), (5, .inl (r37.1)), (4, .inl (x4)), (3, .inr (.inr (161))), (2, .inr (.inr (122))), (1, .inr (.inr (2))), (0, .inr (.inr (1)))], [.inl ((0 : Int32)), .inr (.inr (161))], hp r39.2, c + 1 + 0 + 0, z + 6 + 0 + 0)) 2 rfl ?_
      refine TL_lald rfl (fun _ => ?_)
      refine T_go (S' := (994, [(6, .inl (r38.1)), (5, .inl (r37.1)), (4, .inl (x4)), (3, .inr (.inr (161))), (2, .inr (.inr (122))), (1, .inr (.inr (2))), (0, .inr (.inr (1)))], [.inl ((lg_cmp (r39.2.2 161 (0 : Int32).toNatClampNeg) r38.1.toInt64))], hp r39.2, c + 1 + 0 + 0, z + 6 + 0 + 0)) 3 rfl ?_
      refine TL_if_eq 999 rfl rfl (fun _ => ?_) (fun _ => ?_)
      · refine T_go (S' := (23, [(4, .inl ((x4 + (5 : Int32)))), (6, .inl (r38.1)), (5, .inl (r37.1)), (3, .inr (.inr (161))), (2, .inr (.inr (122))), (1, .inr (.inr (2))), (0, .inr (.inr (1)))], [], hp r39.2, c + 1 + 0 + 0, z + 6 + 0 + 0)) 3 rfl ?_
        refine T_loc (ls' := [(4, .inl ((x4 + (5 : Int32)))), (3, .inr (.inr (161))), (2, .inr (.inr (122))), (1, .inr (.inr (2))), (0, .inr (.inr (1)))]) [0, 3, 4, 5, 6] rfl ?_
        exact ih (x4 + (5 : Int32)) r39.2 (c + 1 + 0 + 0) (z + 6 + 0 + 0) (by omega) (by omega)
      · refine T_go (S' := (998, [(6, .inl (r38.1)), (5, .inl (r37.1)), (4, .inl (x4)), (3, .inr (.inr (161))), (2, .inr (.inr (122))), (1, .inr (.inr (2))), (0, .inr (.inr (1)))], [.inl ((0 : Int32))], hp r39.2, c + 1 + 0 + 0, z + 6 + 0 + 0)) 1 rfl ?_
        exact T_chkr rfl
  · refine T_go (S' := (981, [(6, .inl (r38.1)), (5, .inl (r37.1)), (4, .inl (x4)), (3, .inr (.inr (161))), (2, .inr (.inr (122))), (1, .inr (.inr (2))), (0, .inr (.inr (1)))], [.inl ((0 : Int32))], hp r39.2, c + 1 + 0 + 0, z + 6 + 0 + 0)) 1 rfl ?_
    exact T_chkr rfl

set_option maxRecDepth 20000 in
def f_law_13 (N : Nat) (xs : Nat → Int32) (rec : Int32 → eMem → Option (Int32 × eMem)) (x4 : Int32) (σ : eMem) : Option (Int32 × eMem) :=
  if eix (x4 + (1 : Int32)) N = true then
    Option.bind (f_L_owner 2 (xs (x4 + (1 : Int32)).toNatClampNeg) 161 σ) (fun r40 =>
      if eix (x4 + (1 : Int32)) N = true then
        if (KH 122).1 = 10 then
          Option.bind (f_X12_owner 122 (xs (x4 + (1 : Int32)).toNatClampNeg) r40.2) (fun r41 =>
            if (KH 122).1 = 10 then
              Option.bind (f_X12_thrown 122 r41.2) (fun r42 =>
                if r42.1 = r40.1 then
                  if ¬ r40.1 = (0 : Int32) then
                    rec (x4 + (5 : Int32)) r42.2
                  else
                    if (KH 161).1 = 12 ∧ eix (0 : Int32) (KH 161).2 = true then
                      if (lg_cmp (r42.2.2 161 (0 : Int32).toNatClampNeg) r41.1.toInt64) = (0 : Int32) then
                        rec (x4 + (5 : Int32)) r42.2
                      else
                        if eB (0 : Int32) = true then some ((0 : Int32), r42.2) else none
                    else none
                else
                  if eB (0 : Int32) = true then some ((0 : Int32), r42.2) else none
                )
            else none
            )
        else none
      else none
      )
  else none

set_option maxHeartbeats 40000000 in
set_option maxRecDepth 20000 in
theorem s_law_13 (N : Nat) (xs : Nat → Int32) (rec : Int32 → eMem → Option (Int32 × eMem)) (C Z : Nat) (ih : ∀ (x4 : Int32) (σ : eMem) (c z : Nat), c ≤ C → z ≤ Z → Snd false (some (N, xs)) 23 m_L_law (rec x4 σ) (cN iI) (23, [(4, .inl (x4)), (3, .inr (.inr (161))), (2, .inr (.inr (122))), (1, .inr (.inr (2))), (0, .inr (.inr (1)))], [], hp σ, c, z)) (x4 : Int32) (σ : eMem) (c z : Nat) (hc : c + 10 ≤ C) (hz : z + 100 ≤ Z) (hC : C ≤ 601024) (hZ : Z ≤ 7293034) : Snd false (some (N, xs)) 23 m_L_law (f_law_13 N xs rec x4 σ) (cN iI) (1002, [(4, .inl (x4)), (3, .inr (.inr (161))), (2, .inr (.inr (122))), (1, .inr (.inr (2))), (0, .inr (.inr (1)))], [], hp σ, c, z) := by
  unfold f_law_13
  refine T_go (S' := (1008, [(4, .inl (x4)), (3, .inr (.inr (161))), (2, .inr (.inr (122))), (1, .inr (.inr (2))), (0, .inr (.inr (1)))], [.inl ((x4 + (1 : Int32))), .inr (.inr (1)), .inr (.inr (2))], hp σ, c, z)) 5 rfl ?_
  refine TL_iald rfl (fun _ => ?_)
  refine T_go (S' := (1010, [(4, .inl (x4)), (3, .inr (.inr (161))), (2, .inr (.inr (122))), (1, .inr (.inr (2))), (0, .inr (.inr (1)))], [.inr (.inr (161)), .inl ((xs (x4 + (1 : Int32)).toNatClampNeg)), .inr (.inr (2))], hp σ, c, z)) 1 rfl ?_
  refine TL_cs (i := iI) (as := [.inr (.inr (2)), .inl ((xs (x4 + (1 : Int32)).toNatClampNeg)), .inr (.inr (161))]) (rest := []) (st := [.inr (.inr (161)), .inl ((xs (x4 + (1 : Int32)).toNatClampNeg)), .inr (.inr (2))]) rfl (lb rfl) rfl rfl ⟨by omega, by omega, lb rfl, lb rfl⟩ (fun _ h => Ew_le (lb rfl) (s_L_owner 2 (xs (x4 + (1 : Int32)).toNatClampNeg) 161 σ _ h)) (fun r40 => ?_)
  show Snd false (some (N, xs)) _ _ _ (cN iI) (1013, [(4, .inl (x4)), (3, .inr (.inr (161))), (2, .inr (.inr (122))), (1, .inr (.inr (2))), (0, .inr (.inr (1)))], [.inl (r40.1)], hp r40.2, c + 1, z + 6)
  refine T_go (S' := (1021, [(5, .inl (r40.1)), (4, .inl (x4)), (3, .inr (.inr (161))), (2, .inr (.inr (122))), (1, .inr (.inr (2))), (0, .inr (.inr (1)))], [.inl ((x4 + (1 : Int32))), .inr (.inr (1)), .inr (.inr (122))], hp r40.2, c + 1, z + 6)) 6 rfl ?_
  refine TL_iald rfl (fun _ => ?_)
  refine TL_cv (i := iI) (as := [.inr (.inr (122)), .inl ((xs (x4 + (1 : Int32)).toNatClampNeg))]) (rest := []) (st := [.inl ((xs (x4 + (1 : Int32)).toNatClampNeg)), .inr (.inr (122))]) rfl rfl rfl ⟨by omega, by omega, lb rfl, lb rfl⟩ (fun _ h => Ew_le (lb rfl) (s_X12_owner 122 (xs (x4 + (1 : Int32)).toNatClampNeg) r40.2 _ h)) (fun _ r41 => ?_)
  show Snd false (some (N, xs)) _ _ _ (cN iI) (1025, [(5, .inl (r40.1)), (4, .inl (x4)), (3, .inr (.inr (161))), (2, .inr (.inr (122))), (1, .inr (.inr (2))), (0, .inr (.inr (1)))], [.inl (r41.1)], hp r41.2, c + 1 + 0, z + 6 + 0)
  refine T_go (S' := (1028, [(6, .inl (r41.1)), (5, .inl (r40.1)), (4, .inl (x4)), (3, .inr (.inr (161))), (2, .inr (.inr (122))), (1, .inr (.inr (2))), (0, .inr (.inr (1)))], [.inr (.inr (122))], hp r41.2, c + 1 + 0, z + 6 + 0)) 2 rfl ?_
  refine TL_cv (i := iI) (as := [.inr (.inr (122))]) (rest := []) (st := [.inr (.inr (122))]) rfl rfl rfl ⟨by omega, by omega, lb rfl, lb rfl⟩ (fun _ h => Ew_le (lb rfl) (s_X12_thrown 122 r41.2 _ h)) (fun _ r42 => ?_)
  show Snd false (some (N, xs)) _ _ _ (cN iI) (1031, [(6, .inl (r41.1)), (5, .inl (r40.1)), (4, .inl (x4)), (3, .inr (.inr (161))), (2, .inr (.inr (122))), (1, .inr (.inr (2))), (0, .inr (.inr (1)))], [.inl (r42.1)], hp r42.2, c + 1 + 0 + 0, z + 6 + 0 + 0)
  refine T_go (S' := (1033, [(6, .inl (r41.1)), (5, .inl (r40.1)), (4, .inl (x4)), (3, .inr (.inr (161))), (2, .inr (.inr (122))), (1, .inr (.inr (2))), (0, .inr (.inr (1)))], [.inl (r40.1), .inl (r42.1)], hp r42.2, c + 1 + 0 + 0, z + 6 + 0 + 0)) 1 rfl ?_
  refine TL_icmp_eq 1038 rfl rfl (fun _ => ?_) (fun _ => ?_)
  · refine T_go (S' := (1040, [(6, .inl (r41.1)), (5, .inl (r40.1)), (4, .inl (x4)), (3, .inr (.inr (161))), (2, .inr (.inr (122))), (1, .inr (.inr (2))), (0, .inr (.inr (1)))], [.inl (r40.1)], hp r42.2, c + 1 + 0 + 0, z + 6 + 0 + 0)) 1 rfl ?_
    refine TL_if_ne 1055 rfl rfl (fun _ => ?_) (fun _ => ?_)
    · refine T_go (S' := (23, [(4, .inl ((x4 + (5 : Int32)))), (6, .inl (r41.1)), (5, .inl (r40.1)), (3, .inr (.inr (161))), (2, .inr (.inr (122))), (1, .inr (.inr (2))), (0, .inr (.inr (1)))], [], hp r42.2, c + 1 + 0 + 0, z + 6 + 0 + 0)) 3 rfl ?_
      refine T_loc (ls' := [(4, .inl ((x4 + (5 : Int32)))), (3, .inr (.inr (161))), (2, .inr (.inr (122))), (1, .inr (.inr (2))), (0, .inr (.inr (1)))]) [0, 3, 4, 5, 6] rfl ?_
      exact ih (x4 + (5 : Int32)) r42.2 (c + 1 + 0 + 0) (z + 6 + 0 + 0) (by omega) (by omega)
    · refine T_go (S' := (1045, [(6, .inl (r41.1)), (5, .inl (r40.1)), (4, .inl (x4)), (3, .inr (.inr (161))), (2, .inr (.inr (122))), (1, .inr (.inr (2))), (0, .inr (.inr (1)))], [.inl ((0 : Int32)), .inr (.inr (161))], hp r42.2, c + 1 + 0 + 0, z + 6 + 0 + 0)) 2 rfl ?_
      refine TL_lald rfl (fun _ => ?_)
      refine T_go (S' := (1050, [(6, .inl (r41.1)), (5, .inl (r40.1)), (4, .inl (x4)), (3, .inr (.inr (161))), (2, .inr (.inr (122))), (1, .inr (.inr (2))), (0, .inr (.inr (1)))], [.inl ((lg_cmp (r42.2.2 161 (0 : Int32).toNatClampNeg) r41.1.toInt64))], hp r42.2, c + 1 + 0 + 0, z + 6 + 0 + 0)) 3 rfl ?_
      refine TL_if_eq 1055 rfl rfl (fun _ => ?_) (fun _ => ?_)
      · refine T_go (S' := (23, [(4, .inl ((x4 + (5 : Int32)))), (6, .inl (r41.1)), (5, .inl (r40.1)), (3, .inr (.inr (161))), (2, .inr (.inr (122))), (1, .inr (.inr (2))), (0, .inr (.inr (1)))], [], hp r42.2, c + 1 + 0 + 0, z + 6 + 0 + 0)) 3 rfl ?_
        refine T_loc (ls' := [(4, .inl ((x4 + (5 : Int32)))), (3, .inr (.inr (161))), (2, .inr (.inr (122))), (1, .inr (.inr (2))), (0, .inr (.inr (1)))]) [0, 3, 4, 5, 6] rfl ?_
        exact ih (x4 + (5 : Int32)) r42.2 (c + 1 + 0 + 0) (z + 6 + 0 + 0) (by omega) (by omega)
      · refine T_go (S' := (1054, [(6, .inl (r41.1)), (5, .inl (r40.1)), (4, .inl (x4)), (3, .inr (.inr (161))), (2, .inr (.inr (122))), (1, .inr (.inr (2))), (0, .inr (.inr (1)))], [.inl ((0 : Int32))], hp r42.2, c + 1 + 0 + 0, z + 6 + 0 + 0)) 1 rfl ?_
        exact T_chkr rfl
  · refine T_go (S' := (1037, [(6, .inl (r41.1)), (5, .inl (r40.1)), (4, .inl (x4)), (3, .inr (.inr (161))), (2, .inr (.inr (122))), (1, .inr (.inr (2))), (0, .inr (.inr (1)))], [.inl ((0 : Int32))], hp r42.2, c + 1 + 0 + 0, z + 6 + 0 + 0)) 1 rfl ?_
    exact T_chkr rfl

set_option maxRecDepth 20000 in
def f_law_14 (N : Nat) (xs : Nat → Int32) (rec : Int32 → eMem → Option (Int32 × eMem)) (x4 : Int32) (σ : eMem) : Option (Int32 × eMem) :=
  if eix (x4 + (1 : Int32)) N = true then
    Option.bind (f_L_sharers 2 (xs (x4 + (1 : Int32)).toNatClampNeg) 161 σ) (fun r43 =>
      if eix (x4 + (1 : Int32)) N = true then
        if (KH 122).1 = 10 then
          Option.bind (f_X12_sharers 122 (xs (x4 + (1 : Int32)).toNatClampNeg) r43.2) (fun r44 =>
            if (KH 122).1 = 10 then
              Option.bind (f_X12_thrown 122 r44.2) (fun r45 =>
                if r45.1 = r43.1 then
                  if ¬ r43.1 = (0 : Int32) then
                    rec (x4 + (5 : Int32)) r45.2
                  else
                    if (KH 161).1 = 12 ∧ eix (0 : Int32) (KH 161).2 = true then
                      if (lg_cmp (r45.2.2 161 (0 : Int32).toNatClampNeg) r44.1.toInt64) = (0 : Int32) then
                        rec (x4 + (5 : Int32)) r45.2
                      else
                        if eB (0 : Int32) = true then some ((0 : Int32), r45.2) else none
                    else none
                else
                  if eB (0 : Int32) = true then some ((0 : Int32), r45.2) else none
                )
            else none
            )
        else none
      else none
      )
  else none

set_option maxHeartbeats 40000000 in
set_option maxRecDepth 20000 in
theorem s_law_14 (N : Nat) (xs : Nat → Int32) (rec : Int32 → eMem → Option (Int32 × eMem)) (C Z : Nat) (ih : ∀ (x4 : Int32) (σ : eMem) (c z : Nat), c ≤ C → z ≤ Z → Snd false (some (N, xs)) 23 m_L_law (rec x4 σ) (cN iI) (23, [(4, .inl (x4)), (3, .inr (.inr (161))), (2, .inr (.inr (122))), (1, .inr (.inr (2))), (0, .inr (.inr (1)))], [], hp σ, c, z)) (x4 : Int32) (σ : eMem) (c z : Nat) (hc : c + 10 ≤ C) (hz : z + 100 ≤ Z) (hC : C ≤ 601024) (hZ : Z ≤ 7293034) : Snd false (some (N, xs)) 23 m_L_law (f_law_14 N xs rec x4 σ) (cN iI) (1058, [(4, .inl (x4)), (3, .inr (.inr (161))), (2, .inr (.inr (122))), (1, .inr (.inr (2))), (0, .inr (.inr (1)))], [], hp σ, c, z) := by
  unfold f_law_14
  refine T_go (S' := (1064, [(4, .inl (x4)), (3, .inr (.inr (161))), (2, .inr (.inr (122))), (1, .inr (.inr (2))), (0, .inr (.inr (1)))], [.inl ((x4 + (1 : Int32))), .inr (.inr (1)), .inr (.inr (2))], hp σ, c, z)) 5 rfl ?_
  refine TL_iald rfl (fun _ => ?_)
  refine T_go (S' := (1066, [(4, .inl (x4)), (3, .inr (.inr (161))), (2, .inr (.inr (122))), (1, .inr (.inr (2))), (0, .inr (.inr (1)))], [.inr (.inr (161)), .inl ((xs (x4 + (1 : Int32)).toNatClampNeg)), .inr (.inr (2))], hp σ, c, z)) 1 rfl ?_
  refine TL_cs (i := iI) (as := [.inr (.inr (2)), .inl ((xs (x4 + (1 : Int32)).toNatClampNeg)), .inr (.inr (161))]) (rest := []) (st := [.inr (.inr (161)), .inl ((xs (x4 + (1 : Int32)).toNatClampNeg)), .inr (.inr (2))]) rfl (lb rfl) rfl rfl ⟨by omega, by omega, lb rfl, lb rfl⟩ (fun _ h => Ew_le (lb rfl) (s_L_sharers 2 (xs (x4 + (1 : Int32)).toNatClampNeg) 161 σ _ h)) (fun r43 => ?_)
  show Snd false (some (N, xs)) _ _ _ (cN iI) (1069, [(4, .inl (x4)), (3, .inr (.inr (161))), (2, .inr (.inr (122))), (1, .inr (.inr (2))), (0, .inr (.inr (1)))], [.inl (r43.1)], hp r43.2, c + 1, z + 6)
  refine T_go (S' := (1077, [(5, .inl (r43.1)), (4, .inl (x4)), (3, .inr (.inr (161))), (2, .inr (.inr (122))), (1, .inr (.inr (2))), (0, .inr (.inr (1)))], [.inl ((x4 + (1 : Int32))), .inr (.inr (1)), .inr (.inr (122))], hp r43.2, c + 1, z + 6)) 6 rfl ?_
  refine TL_iald rfl (fun _ => ?_)
  refine TL_cv (i := iI) (as := [.inr (.inr (122)), .inl ((xs (x4 + (1 : Int32)).toNatClampNeg))]) (rest := []) (st := [.inl ((xs (x4 + (1 : Int32)).toNatClampNeg)), .inr (.inr (122))]) rfl rfl rfl ⟨by omega, by omega, lb rfl, lb rfl⟩ (fun _ h => Ew_le (lb rfl) (s_X12_sharers 122 (xs (x4 + (1 : Int32)).toNatClampNeg) r43.2 _ h)) (fun _ r44 => ?_)
  show Snd false (some (N, xs)) _ _ _ (cN iI) (1081, [(5, .inl (r43.1)), (4, .inl (x4)), (3, .inr (.inr (161))), (2, .inr (.inr (122))), (1, .inr (.inr (2))), (0, .inr (.inr (1)))], [.inl (r44.1)], hp r44.2, c + 1 + 0, z + 6 + 0)
  refine T_go (S' := (1084, [(6, .inl (r44.1)), (5, .inl (r43.1)), (4, .inl (x4)), (3, .inr (.inr (161))), (2, .inr (.inr (122))), (1, .inr (.inr (2))), (0, .inr (.inr (1)))], [.inr (.inr (122))], hp r44.2, c + 1 + 0, z + 6 + 0)) 2 rfl ?_
  refine TL_cv (i := iI) (as := [.inr (.inr (122))]) (rest := []) (st := [.inr (.inr (122))]) rfl rfl rfl ⟨by omega, by omega, lb rfl, lb rfl⟩ (fun _ h => Ew_le (lb rfl) (s_X12_thrown 122 r44.2 _ h)) (fun _ r45 => ?_)
  show Snd false (some (N, xs)) _ _ _ (cN iI) (1087, [(6, .inl (r44.1)), (5, .inl (r43.1)), (4, .inl (x4)), (3, .inr (.inr (161))), (2, .inr (.inr (122))), (1, .inr (.inr (2))), (0, .inr (.inr (1)))], [.inl (r45.1)], hp r45.2, c + 1 + 0 + 0, z + 6 + 0 + 0)
  refine T_go (S' := (1089, [(6, .inl (r44.1)), (5, .inl (r43.1)), (4, .inl (x4)), (3, .inr (.inr (161))), (2, .inr (.inr (122))), (1, .inr (.inr (2))), (0, .inr (.inr (1)))], [.inl (r43.1), .inl (r45.1)], hp r45.2, c + 1 + 0 + 0, z + 6 + 0 + 0)) 1 rfl ?_
  refine TL_icmp_eq 1094 rfl rfl (fun _ => ?_) (fun _ => ?_)
  · refine T_go (S' := (1096, [(6, .inl (r44.1)), (5, .inl (r43.1)), (4, .inl (x4)), (3, .inr (.inr (161))), (2, .inr (.inr (122))), (1, .inr (.inr (2))), (0, .inr (.inr (1)))], [.inl (r43.1)], hp r45.2, c + 1 + 0 + 0, z + 6 + 0 + 0)) 1 rfl ?_
    refine TL_if_ne 1111 rfl rfl (fun _ => ?_) (fun _ => ?_)
    · refine T_go (S' := (23, [(4, .inl ((x4 + (5 : Int32)))), (6, .inl (r44.1)), (5, .inl (r43.1)), (3, .inr (.inr (161))), (2, .inr (.inr (122))), (1, .inr (.inr (2))), (0, .inr (.inr (1)))], [], hp r45.2, c + 1 + 0 + 0, z + 6 + 0 + 0)) 3 rfl ?_
      refine T_loc (ls' := [(4, .inl ((x4 + (5 : Int32)))), (3, .inr (.inr (161))), (2, .inr (.inr (122))), (1, .inr (.inr (2))), (0, .inr (.inr (1)))]) [0, 3, 4, 5, 6] rfl ?_
      exact ih (x4 + (5 : Int32)) r45.2 (c + 1 + 0 + 0) (z + 6 + 0 + 0) (by omega) (by omega)
    · refine T_go (S' := (1101, [(6, .inl (r44.1)), (5, .inl (r43.1)), (4, .inl (x4)), (3, .inr (.inr (161))), (2, .inr (.inr (122))), (1, .inr (.inr (2))), (0, .inr (.inr (1)))], [.inl ((0 : Int32)), .inr (.inr (161))], hp r45.2, c + 1 + 0 + 0, z + 6 + 0 + 0)) 2 rfl ?_
      refine TL_lald rfl (fun _ => ?_)
      refine T_go (S' := (1106, [(6, .inl (r44.1)), (5, .inl (r43.1)), (4, .inl (x4)), (3, .inr (.inr (161))), (2, .inr (.inr (122))), (1, .inr (.inr (2))), (0, .inr (.inr (1)))], [.inl ((lg_cmp (r45.2.2 161 (0 : Int32).toNatClampNeg) r44.1.toInt64))], hp r45.2, c + 1 + 0 + 0, z + 6 + 0 + 0)) 3 rfl ?_
      refine TL_if_eq 1111 rfl rfl (fun _ => ?_) (fun _ => ?_)
      · refine T_go (S' := (23, [(4, .inl ((x4 + (5 : Int32)))), (6, .inl (r44.1)), (5, .inl (r43.1)), (3, .inr (.inr (161))), (2, .inr (.inr (122))), (1, .inr (.inr (2))), (0, .inr (.inr (1)))], [], hp r45.2, c + 1 + 0 + 0, z + 6 + 0 + 0)) 3 rfl ?_
        refine T_loc (ls' := [(4, .inl ((x4 + (5 : Int32)))), (3, .inr (.inr (161))), (2, .inr (.inr (122))), (1, .inr (.inr (2))), (0, .inr (.inr (1)))]) [0, 3, 4, 5, 6] rfl ?_
        exact ih (x4 + (5 : Int32)) r45.2 (c + 1 + 0 + 0) (z + 6 + 0 + 0) (by omega) (by omega)
      · refine T_go (S' := (1110, [(6, .inl (r44.1)), (5, .inl (r43.1)), (4, .inl (x4)), (3, .inr (.inr (161))), (2, .inr (.inr (122))), (1, .inr (.inr (2))), (0, .inr (.inr (1)))], [.inl ((0 : Int32))], hp r45.2, c + 1 + 0 + 0, z + 6 + 0 + 0)) 1 rfl ?_
        exact T_chkr rfl
  · refine T_go (S' := (1093, [(6, .inl (r44.1)), (5, .inl (r43.1)), (4, .inl (x4)), (3, .inr (.inr (161))), (2, .inr (.inr (122))), (1, .inr (.inr (2))), (0, .inr (.inr (1)))], [.inl ((0 : Int32))], hp r45.2, c + 1 + 0 + 0, z + 6 + 0 + 0)) 1 rfl ?_
    exact T_chkr rfl

set_option maxRecDepth 20000 in
def f_law_15 (N : Nat) (xs : Nat → Int32) (rec : Int32 → eMem → Option (Int32 × eMem)) (x4 : Int32) (σ : eMem) : Option (Int32 × eMem) :=
  if eix (x4 + (1 : Int32)) N = true then
    Option.bind (f_L_waiting 2 (xs (x4 + (1 : Int32)).toNatClampNeg) 161 σ) (fun r46 =>
      if eix (x4 + (1 : Int32)) N = true then
        if (KH 122).1 = 10 then
          Option.bind (f_X12_waiting 122 (xs (x4 + (1 : Int32)).toNatClampNeg) r46.2) (fun r47 =>
            if (KH 122).1 = 10 then
              Option.bind (f_X12_thrown 122 r47.2) (fun r48 =>
                if r48.1 = r46.1 then
                  if ¬ r46.1 = (0 : Int32) then
                    rec (x4 + (5 : Int32)) r48.2
                  else
                    if (KH 161).1 = 12 ∧ eix (0 : Int32) (KH 161).2 = true then
                      if (lg_cmp (r48.2.2 161 (0 : Int32).toNatClampNeg) r47.1.toInt64) = (0 : Int32) then
                        rec (x4 + (5 : Int32)) r48.2
                      else
                        if eB (0 : Int32) = true then some ((0 : Int32), r48.2) else none
                    else none
                else
                  if eB (0 : Int32) = true then some ((0 : Int32), r48.2) else none
                )
            else none
            )
        else none
      else none
      )
  else none

set_option maxHeartbeats 40000000 in
set_option maxRecDepth 20000 in
theorem s_law_15 (N : Nat) (xs : Nat → Int32) (rec : Int32 → eMem → Option (Int32 × eMem)) (C Z : Nat) (ih : ∀ (x4 : Int32) (σ : eMem) (c z : Nat), c ≤ C → z ≤ Z → Snd false (some (N, xs)) 23 m_L_law (rec x4 σ) (cN iI) (23, [(4, .inl (x4)), (3, .inr (.inr (161))), (2, .inr (.inr (122))), (1, .inr (.inr (2))), (0, .inr (.inr (1)))], [], hp σ, c, z)) (x4 : Int32) (σ : eMem) (c z : Nat) (hc : c + 10 ≤ C) (hz : z + 100 ≤ Z) (hC : C ≤ 601024) (hZ : Z ≤ 7293034) : Snd false (some (N, xs)) 23 m_L_law (f_law_15 N xs rec x4 σ) (cN iI) (1114, [(4, .inl (x4)), (3, .inr (.inr (161))), (2, .inr (.inr (122))), (1, .inr (.inr (2))), (0, .inr (.inr (1)))], [], hp σ, c, z) := by
  unfold f_law_15
  refine T_go (S' := (1120, [(4, .inl (x4)), (3, .inr (.inr (161))), (2, .inr (.inr (122))), (1, .inr (.inr (2))), (0, .inr (.inr (1)))], [.inl ((x4 + (1 : Int32))), .inr (.inr (1)), .inr (.inr (2))], hp σ, c, z)) 5 rfl ?_
  refine TL_iald rfl (fun _ => ?_)
  refine T_go (S' := (1122, [(4, .inl (x4)), (3, .inr (.inr (161))), (2, .inr (.inr (122))), (1, .inr (.inr (2))), (0, .inr (.inr (1)))], [.inr (.inr (161)), .inl ((xs (x4 + (1 : Int32)).toNatClampNeg)), .inr (.inr (2))], hp σ, c, z)) 1 rfl ?_
  refine TL_cs (i := iI) (as := [.inr (.inr (2)), .inl ((xs (x4 + (1 : Int32)).toNatClampNeg)), .inr (.inr (161))]) (rest := []) (st := [.inr (.inr (161)), .inl ((xs (x4 + (1 : Int32)).toNatClampNeg)), .inr (.inr (2))]) rfl (lb rfl) rfl rfl ⟨by omega, by omega, lb rfl, lb rfl⟩ (fun _ h => Ew_le (lb rfl) (s_L_waiting 2 (xs (x4 + (1 : Int32)).toNatClampNeg) 161 σ _ h)) (fun r46 => ?_)
  show Snd false (some (N, xs)) _ _ _ (cN iI) (1125, [(4, .inl (x4)), (3, .inr (.inr (161))), (2, .inr (.inr (122))), (1, .inr (.inr (2))), (0, .inr (.inr (1)))], [.inl (r46.1)], hp r46.2, c + 1, z + 6)
  refine T_go (S' := (1133, [(5, .inl (r46.1)), (4, .inl (x4)), (3, .inr (.inr (161))), (2, .inr (.inr (122))), (1, .inr (.inr (2))), (0, .inr (.inr (1)))], [.inl ((x4 + (1 : Int32))), .inr (.inr (1)), .inr (.inr (122))], hp r46.2, c + 1, z + 6)) 6 rfl ?_
  refine TL_iald rfl (fun _ => ?_)
  refine TL_cv (i := iI) (as := [.inr (.inr (122)), .inl ((xs (x4 + (1 : Int32)).toNatClampNeg))]) (rest := []) (st := [.inl ((xs (x4 + (1 : Int32)).toNatClampNeg)), .inr (.inr (122))]) rfl rfl rfl ⟨by omega, by omega, lb rfl, lb rfl⟩ (fun _ h => Ew_le (lb rfl) (s_X12_waiting 122 (xs (x4 + (1 : Int32)).toNatClampNeg) r46.2 _ h)) (fun _ r47 => ?_)
  show Snd false (some (N, xs)) _ _ _ (cN iI) (1137, [(5, .inl (r46.1)), (4, .inl (x4)), (3, .inr (.inr (161))), (2, .inr (.inr (122))), (1, .inr (.inr (2))), (0, .inr (.inr (1)))], [.inl (r47.1)], hp r47.2, c + 1 + 0, z + 6 + 0)
  refine T_go (S' := (1140, [(6, .inl (r47.1)), (5, .inl (r46.1)), (4, .inl (x4)), (3, .inr (.inr (161))), (2, .inr (.inr (122))), (1, .inr (.inr (2))), (0, .inr (.inr (1)))], [.inr (.inr (122))], hp r47.2, c + 1 + 0, z + 6 + 0)) 2 rfl ?_
  refine TL_cv (i := iI) (as := [.inr (.inr (122))]) (rest := []) (st := [.inr (.inr (122))]) rfl rfl rfl ⟨by omega, by omega, lb rfl, lb rfl⟩ (fun _ h => Ew_le (lb rfl) (s_X12_thrown 122 r47.2 _ h)) (fun _ r48 => ?_)
  show Snd false (some (N, xs)) _ _ _ (cN iI) (1143, [(6, .inl (r47.1)), (5, .inl (r46.1)), (4, .inl (x4)), (3, .inr (.inr (161))), (2, .inr (.inr (122))), (1, .inr (.inr (2))), (0, .inr (.inr (1)))], [.inl (r48.1)], hp r48.2, c + 1 + 0 + 0, z + 6 + 0 + 0)
  refine T_go (S' := (1145, [(6, .inl (r47.1)), (5, .inl (r46.1)), (4, .inl (x4)), (3, .inr (.inr (161))), (2, .inr (.inr (122))), (1, .inr (.inr (2))), (0, .inr (.inr (1)))], [.inl (r46.1), .inl (r48.1)], hp r48.2, c + 1 + 0 + 0, z + 6 + 0 + 0)) 1 rfl ?_
  refine TL_icmp_eq 1150 rfl rfl (fun _ => ?_) (fun _ => ?_)
  · refine T_go (S' := (1152, [(6, .inl (r47.1)), (5, .inl (r46.1)), (4, .inl (x4)), (3, .inr (.inr (161))), (2, .inr (.inr (122))), (1, .inr (.inr (2))), (0, .inr (.inr (1)))], [.inl (r46.1)], hp r48.2, c + 1 + 0 + 0, z + 6 + 0 + 0)) 1 rfl ?_
    refine TL_if_ne 1167 rfl rfl (fun _ => ?_) (fun _ => ?_)
    · refine T_go (S' := (23, [(4, .inl ((x4 + (5 : Int32)))), (6, .inl (r47.1)), (5, .inl (r46.1)), (3, .inr (.inr (161))), (2, .inr (.inr (122))), (1, .inr (.inr (2))), (0, .inr (.inr (1)))], [], hp r48.2, c + 1 + 0 + 0, z + 6 + 0 + 0)) 3 rfl ?_
      refine T_loc (ls' := [(4, .inl ((x4 + (5 : Int32)))), (3, .inr (.inr (161))), (2, .inr (.inr (122))), (1, .inr (.inr (2))), (0, .inr (.inr (1)))]) [0, 3, 4, 5, 6] rfl ?_
      exact ih (x4 + (5 : Int32)) r48.2 (c + 1 + 0 + 0) (z + 6 + 0 + 0) (by omega) (by omega)
    · refine T_go (S' := (1157, [(6, .inl (r47.1)), (5, .inl (r46.1)), (4, .inl (x4)), (3, .inr (.inr (161))), (2, .inr (.inr (122))), (1, .inr (.inr (2))), (0, .inr (.inr (1)))], [.inl ((0 : Int32)), .inr (.inr (161))], hp r48.2, c + 1 + 0 + 0, z + 6 + 0 + 0)) 2 rfl ?_
      refine TL_lald rfl (fun _ => ?_)
      refine T_go (S' := (1162, [(6, .inl (r47.1)), (5, .inl (r46.1)), (4, .inl (x4)), (3, .inr (.inr (161))), (2, .inr (.inr (122))), (1, .inr (.inr (2))), (0, .inr (.inr (1)))], [.inl ((lg_cmp (r48.2.2 161 (0 : Int32).toNatClampNeg) r47.1.toInt64))], hp r48.2, c + 1 + 0 + 0, z + 6 + 0 + 0)) 3 rfl ?_
      refine TL_if_eq 1167 rfl rfl (fun _ => ?_) (fun _ => ?_)
      · refine T_go (S' := (23, [(4, .inl ((x4 + (5 : Int32)))), (6, .inl (r47.1)), (5, .inl (r46.1)), (3, .inr (.inr (161))), (2, .inr (.inr (122))), (1, .inr (.inr (2))), (0, .inr (.inr (1)))], [], hp r48.2, c + 1 + 0 + 0, z + 6 + 0 + 0)) 3 rfl ?_
        refine T_loc (ls' := [(4, .inl ((x4 + (5 : Int32)))), (3, .inr (.inr (161))), (2, .inr (.inr (122))), (1, .inr (.inr (2))), (0, .inr (.inr (1)))]) [0, 3, 4, 5, 6] rfl ?_
        exact ih (x4 + (5 : Int32)) r48.2 (c + 1 + 0 + 0) (z + 6 + 0 + 0) (by omega) (by omega)
      · refine T_go (S' := (1166, [(6, .inl (r47.1)), (5, .inl (r46.1)), (4, .inl (x4)), (3, .inr (.inr (161))), (2, .inr (.inr (122))), (1, .inr (.inr (2))), (0, .inr (.inr (1)))], [.inl ((0 : Int32))], hp r48.2, c + 1 + 0 + 0, z + 6 + 0 + 0)) 1 rfl ?_
        exact T_chkr rfl
  · refine T_go (S' := (1149, [(6, .inl (r47.1)), (5, .inl (r46.1)), (4, .inl (x4)), (3, .inr (.inr (161))), (2, .inr (.inr (122))), (1, .inr (.inr (2))), (0, .inr (.inr (1)))], [.inl ((0 : Int32))], hp r48.2, c + 1 + 0 + 0, z + 6 + 0 + 0)) 1 rfl ?_
    exact T_chkr rfl

set_option maxRecDepth 20000 in
def f_law_16 (N : Nat) (xs : Nat → Int32) (rec : Int32 → eMem → Option (Int32 × eMem)) (x4 : Int32) (σ : eMem) : Option (Int32 × eMem) :=
  if eix (x4 + (1 : Int32)) N = true then
    Option.bind (f_L_truth 2 (xs (x4 + (1 : Int32)).toNatClampNeg) 161 σ) (fun r49 =>
      if eix (x4 + (1 : Int32)) N = true then
        if (KH 122).1 = 10 then
          Option.bind (f_X12_truth 122 (xs (x4 + (1 : Int32)).toNatClampNeg) r49.2) (fun r50 =>
            if (KH 122).1 = 10 then
              Option.bind (f_X12_thrown 122 r50.2) (fun r51 =>
                if r51.1 = r49.1 then
                  if ¬ r49.1 = (0 : Int32) then
                    rec (x4 + (5 : Int32)) r51.2
                  else
                    if (KH 161).1 = 12 ∧ eix (0 : Int32) (KH 161).2 = true then
                      if (lg_cmp (r51.2.2 161 (0 : Int32).toNatClampNeg) r50.1.toInt64) = (0 : Int32) then
                        rec (x4 + (5 : Int32)) r51.2
                      else
                        if eB (0 : Int32) = true then some ((0 : Int32), r51.2) else none
                    else none
                else
                  if eB (0 : Int32) = true then some ((0 : Int32), r51.2) else none
                )
            else none
            )
        else none
      else none
      )
  else none

set_option maxHeartbeats 40000000 in
set_option maxRecDepth 20000 in
theorem s_law_16 (N : Nat) (xs : Nat → Int32) (rec : Int32 → eMem → Option (Int32 × eMem)) (C Z : Nat) (ih : ∀ (x4 : Int32) (σ : eMem) (c z : Nat), c ≤ C → z ≤ Z → Snd false (some (N, xs)) 23 m_L_law (rec x4 σ) (cN iI) (23, [(4, .inl (x4)), (3, .inr (.inr (161))), (2, .inr (.inr (122))), (1, .inr (.inr (2))), (0, .inr (.inr (1)))], [], hp σ, c, z)) (x4 : Int32) (σ : eMem) (c z : Nat) (hc : c + 10 ≤ C) (hz : z + 100 ≤ Z) (hC : C ≤ 601024) (hZ : Z ≤ 7293034) : Snd false (some (N, xs)) 23 m_L_law (f_law_16 N xs rec x4 σ) (cN iI) (1170, [(4, .inl (x4)), (3, .inr (.inr (161))), (2, .inr (.inr (122))), (1, .inr (.inr (2))), (0, .inr (.inr (1)))], [], hp σ, c, z) := by
  unfold f_law_16
  refine T_go (S' := (1176, [(4, .inl (x4)), (3, .inr (.inr (161))), (2, .inr (.inr (122))), (1, .inr (.inr (2))), (0, .inr (.inr (1)))], [.inl ((x4 + (1 : Int32))), .inr (.inr (1)), .inr (.inr (2))], hp σ, c, z)) 5 rfl ?_
  refine TL_iald rfl (fun _ => ?_)
  refine T_go (S' := (1178, [(4, .inl (x4)), (3, .inr (.inr (161))), (2, .inr (.inr (122))), (1, .inr (.inr (2))), (0, .inr (.inr (1)))], [.inr (.inr (161)), .inl ((xs (x4 + (1 : Int32)).toNatClampNeg)), .inr (.inr (2))], hp σ, c, z)) 1 rfl ?_
  refine TL_cs (i := iI) (as := [.inr (.inr (2)), .inl ((xs (x4 + (1 : Int32)).toNatClampNeg)), .inr (.inr (161))]) (rest := []) (st := [.inr (.inr (161)), .inl ((xs (x4 + (1 : Int32)).toNatClampNeg)), .inr (.inr (2))]) rfl (lb rfl) rfl rfl ⟨by omega, by omega, lb rfl, lb rfl⟩ (fun _ h => Ew_le (lb rfl) (s_L_truth 2 (xs (x4 + (1 : Int32)).toNatClampNeg) 161 σ _ h)) (fun r49 => ?_)
  show Snd false (some (N, xs)) _ _ _ (cN iI) (1181, [(4, .inl (x4)), (3, .inr (.inr (161))), (2, .inr (.inr (122))), (1, .inr (.inr (2))), (0, .inr (.inr (1)))], [.inl (r49.1)], hp r49.2, c + 1, z + 6)
  refine T_go (S' := (1189, [(5, .inl (r49.1)), (4, .inl (x4)), (3, .inr (.inr (161))), (2, .inr (.inr (122))), (1, .inr (.inr (2))), (0, .inr (.inr (1)))], [.inl ((x4 + (1 : Int32))), .inr (.inr (1)), .inr (.inr (122))], hp r49.2, c + 1, z + 6)) 6 rfl ?_
  refine TL_iald rfl (fun _ => ?_)
  refine TL_cv (i := iI) (as := [.inr (.inr (122)), .inl ((xs (x4 + (1 : Int32)).toNatClampNeg))]) (rest := []) (st := [.inl ((xs (x4 + (1 : Int32)).toNatClampNeg)), .inr (.inr (122))]) rfl rfl rfl ⟨by omega, by omega, lb rfl, lb rfl⟩ (fun _ h => Ew_le (lb rfl) (s_X12_truth 122 (xs (x4 + (1 : Int32)).toNatClampNeg) r49.2 _ h)) (fun _ r50 => ?_)
  show Snd false (some (N, xs)) _ _ _ (cN iI) (1193, [(5, .inl (r49.1)), (4, .inl (x4)), (3, .inr (.inr (161))), (2, .inr (.inr (122))), (1, .inr (.inr (2))), (0, .inr (.inr (1)))], [.inl (r50.1)], hp r50.2, c + 1 + 0, z + 6 + 0)
  refine T_go (S' := (1196, [(6, .inl (r50.1)), (5, .inl (r49.1)), (4, .inl (x4)), (3, .inr (.inr (161))), (2, .inr (.inr (122))), (1, .inr (.inr (2))), (0, .inr (.inr (1)))], [.inr (.inr (122))], hp r50.2, c + 1 + 0, z + 6 + 0)) 2 rfl ?_
  refine TL_cv (i := iI) (as := [.inr (.inr (122))]) (rest := []) (st := [.inr (.inr (122))]) rfl rfl rfl ⟨by omega, by omega, lb rfl, lb rfl⟩ (fun _ h => Ew_le (lb rfl) (s_X12_thrown 122 r50.2 _ h)) (fun _ r51 => ?_)
  show Snd false (some (N, xs)) _ _ _ (cN iI) (1199, [(6, .inl (r50.1)), (5, .inl (r49.1)), (4, .inl (x4)), (3, .inr (.inr (161))), (2, .inr (.inr (122))), (1, .inr (.inr (2))), (0, .inr (.inr (1)))], [.inl (r51.1)], hp r51.2, c + 1 + 0 + 0, z + 6 + 0 + 0)
  refine T_go (S' := (1201, [(6, .inl (r50.1)), (5, .inl (r49.1)), (4, .inl (x4)), (3, .inr (.inr (161))), (2, .inr (.inr (122))), (1, .inr (.inr (2))), (0, .inr (.inr (1)))], [.inl (r49.1), .inl (r51.1)], hp r51.2, c + 1 + 0 + 0, z + 6 + 0 + 0)) 1 rfl ?_
  refine TL_icmp_eq 1206 rfl rfl (fun _ => ?_) (fun _ => ?_)
  · refine T_go (S' := (1208, [(6, .inl (r50.1)), (5, .inl (r49.1)), (4, .inl (x4)), (3, .inr (.inr (161))), (2, .inr (.inr (122))), (1, .inr (.inr (2))), (0, .inr (.inr (1)))], [.inl (r49.1)], hp r51.2, c + 1 + 0 + 0, z + 6 + 0 + 0)) 1 rfl ?_
    refine TL_if_ne 1223 rfl rfl (fun _ => ?_) (fun _ => ?_)
    · refine T_go (S' := (23, [(4, .inl ((x4 + (5 : Int32)))), (6, .inl (r50.1)), (5, .inl (r49.1)), (3, .inr (.inr (161))), (2, .inr (.inr (122))), (1, .inr (.inr (2))), (0, .inr (.inr (1)))], [], hp r51.2, c + 1 + 0 + 0, z + 6 + 0 + 0)) 3 rfl ?_
      refine T_loc (ls' := [(4, .inl ((x4 + (5 : Int32)))), (3, .inr (.inr (161))), (2, .inr (.inr (122))), (1, .inr (.inr (2))), (0, .inr (.inr (1)))]) [0, 3, 4, 5, 6] rfl ?_
      exact ih (x4 + (5 : Int32)) r51.2 (c + 1 + 0 + 0) (z + 6 + 0 + 0) (by omega) (by omega)
    · refine T_go (S' := (1213, [(6, .inl (r50.1)), (5, .inl (r49.1)), (4, .inl (x4)), (3, .inr (.inr (161))), (2, .inr (.inr (122))), (1, .inr (.inr (2))), (0, .inr (.inr (1)))], [.inl ((0 : Int32)), .inr (.inr (161))], hp r51.2, c + 1 + 0 + 0, z + 6 + 0 + 0)) 2 rfl ?_
      refine TL_lald rfl (fun _ => ?_)
      refine T_go (S' := (1218, [(6, .inl (r50.1)), (5, .inl (r49.1)), (4, .inl (x4)), (3, .inr (.inr (161))), (2, .inr (.inr (122))), (1, .inr (.inr (2))), (0, .inr (.inr (1)))], [.inl ((lg_cmp (r51.2.2 161 (0 : Int32).toNatClampNeg) r50.1.toInt64))], hp r51.2, c + 1 + 0 + 0, z + 6 + 0 + 0)) 3 rfl ?_
      refine TL_if_eq 1223 rfl rfl (fun _ => ?_) (fun _ => ?_)
      · refine T_go (S' := (23, [(4, .inl ((x4 + (5 : Int32)))), (6, .inl (r50.1)), (5, .inl (r49.1)), (3, .inr (.inr (161))), (2, .inr (.inr (122))), (1, .inr (.inr (2))), (0, .inr (.inr (1)))], [], hp r51.2, c + 1 + 0 + 0, z + 6 + 0 + 0)) 3 rfl ?_
        refine T_loc (ls' := [(4, .inl ((x4 + (5 : Int32)))), (3, .inr (.inr (161))), (2, .inr (.inr (122))), (1, .inr (.inr (2))), (0, .inr (.inr (1)))]) [0, 3, 4, 5, 6] rfl ?_
        exact ih (x4 + (5 : Int32)) r51.2 (c + 1 + 0 + 0) (z + 6 + 0 + 0) (by omega) (by omega)
      · refine T_go (S' := (1222, [(6, .inl (r50.1)), (5, .inl (r49.1)), (4, .inl (x4)), (3, .inr (.inr (161))), (2, .inr (.inr (122))), (1, .inr (.inr (2))), (0, .inr (.inr (1)))], [.inl ((0 : Int32))], hp r51.2, c + 1 + 0 + 0, z + 6 + 0 + 0)) 1 rfl ?_
        exact T_chkr rfl
  · refine T_go (S' := (1205, [(6, .inl (r50.1)), (5, .inl (r49.1)), (4, .inl (x4)), (3, .inr (.inr (161))), (2, .inr (.inr (122))), (1, .inr (.inr (2))), (0, .inr (.inr (1)))], [.inl ((0 : Int32))], hp r51.2, c + 1 + 0 + 0, z + 6 + 0 + 0)) 1 rfl ?_
    exact T_chkr rfl

set_option maxRecDepth 20000 in
def f_law_17 (N : Nat) (xs : Nat → Int32) (rec : Int32 → eMem → Option (Int32 × eMem)) (x4 : Int32) (σ : eMem) : Option (Int32 × eMem) :=
  if (KH 2).1 = 9 then
    Option.bind (f_X11_isCoherent 2 σ) (fun r52 =>
      if (KH 122).1 = 10 then
        Option.bind (f_X12_isCoherent 122 r52.2) (fun r53 =>
          if r52.1 = r53.1 then
            rec (x4 + (5 : Int32)) r53.2
          else
            if eB (0 : Int32) = true then some ((0 : Int32), r53.2) else none
          )
      else none
      )
  else none

set_option maxHeartbeats 40000000 in
set_option maxRecDepth 20000 in
theorem s_law_17 (N : Nat) (xs : Nat → Int32) (rec : Int32 → eMem → Option (Int32 × eMem)) (C Z : Nat) (ih : ∀ (x4 : Int32) (σ : eMem) (c z : Nat), c ≤ C → z ≤ Z → Snd false (some (N, xs)) 23 m_L_law (rec x4 σ) (cN iI) (23, [(4, .inl (x4)), (3, .inr (.inr (161))), (2, .inr (.inr (122))), (1, .inr (.inr (2))), (0, .inr (.inr (1)))], [], hp σ, c, z)) (x4 : Int32) (σ : eMem) (c z : Nat) (hc : c + 10 ≤ C) (hz : z + 100 ≤ Z) (hC : C ≤ 601024) (hZ : Z ≤ 7293034) : Snd false (some (N, xs)) 23 m_L_law (f_law_17 N xs rec x4 σ) (cN iI) (1226, [(4, .inl (x4)), (3, .inr (.inr (161))), (2, .inr (.inr (122))), (1, .inr (.inr (2))), (0, .inr (.inr (1)))], [], hp σ, c, z) := by
  unfold f_law_17
  refine T_go (S' := (1227, [(4, .inl (x4)), (3, .inr (.inr (161))), (2, .inr (.inr (122))), (1, .inr (.inr (2))), (0, .inr (.inr (1)))], [.inr (.inr (2))], hp σ, c, z)) 1 rfl ?_
  refine TL_cv (i := iI) (as := [.inr (.inr (2))]) (rest := []) (st := [.inr (.inr (2))]) rfl rfl rfl ⟨by omega, by omega, lb rfl, lb rfl⟩ (fun _ h => Ew_le (lb rfl) (s_X11_isCoherent 2 σ _ h)) (fun _ r52 => ?_)
  show Snd false (some (N, xs)) _ _ _ (cN iI) (1230, [(4, .inl (x4)), (3, .inr (.inr (161))), (2, .inr (.inr (122))), (1, .inr (.inr (2))), (0, .inr (.inr (1)))], [.inl (r52.1)], hp r52.2, c + 0, z + 0)
  refine T_go (S' := (1231, [(4, .inl (x4)), (3, .inr (.inr (161))), (2, .inr (.inr (122))), (1, .inr (.inr (2))), (0, .inr (.inr (1)))], [.inr (.inr (122)), .inl (r52.1)], hp r52.2, c + 0, z + 0)) 1 rfl ?_
  refine TL_cv (i := iI) (as := [.inr (.inr (122))]) (rest := [.inl (r52.1)]) (st := [.inr (.inr (122)), .inl (r52.1)]) rfl rfl rfl ⟨by omega, by omega, lb rfl, lb rfl⟩ (fun _ h => Ew_le (lb rfl) (s_X12_isCoherent 122 r52.2 _ h)) (fun _ r53 => ?_)
  show Snd false (some (N, xs)) _ _ _ (cN iI) (1234, [(4, .inl (x4)), (3, .inr (.inr (161))), (2, .inr (.inr (122))), (1, .inr (.inr (2))), (0, .inr (.inr (1)))], [.inl (r53.1), .inl (r52.1)], hp r53.2, c + 0 + 0, z + 0 + 0)
  refine TL_icmp_eq 1593 rfl rfl (fun _ => ?_) (fun _ => ?_)
  · refine T_go (S' := (23, [(4, .inl ((x4 + (5 : Int32)))), (3, .inr (.inr (161))), (2, .inr (.inr (122))), (1, .inr (.inr (2))), (0, .inr (.inr (1)))], [], hp r53.2, c + 0 + 0, z + 0 + 0)) 2 rfl ?_
    refine T_loc (ls' := [(4, .inl ((x4 + (5 : Int32)))), (3, .inr (.inr (161))), (2, .inr (.inr (122))), (1, .inr (.inr (2))), (0, .inr (.inr (1)))]) [0, 1, 2, 3, 4] rfl ?_
    exact ih (x4 + (5 : Int32)) r53.2 (c + 0 + 0) (z + 0 + 0) (by omega) (by omega)
  · refine T_go (S' := (1238, [(4, .inl (x4)), (3, .inr (.inr (161))), (2, .inr (.inr (122))), (1, .inr (.inr (2))), (0, .inr (.inr (1)))], [.inl ((0 : Int32))], hp r53.2, c + 0 + 0, z + 0 + 0)) 1 rfl ?_
    exact T_chkr rfl

set_option maxRecDepth 20000 in
def f_law_18 (N : Nat) (xs : Nat → Int32) (rec : Int32 → eMem → Option (Int32 × eMem)) (x4 : Int32) (σ : eMem) : Option (Int32 × eMem) :=
  if eix (x4 + (1 : Int32)) N = true then
    Option.bind (f_L_counter 2 (xs (x4 + (1 : Int32)).toNatClampNeg) 161 σ) (fun r54 =>
      if eix (x4 + (1 : Int32)) N = true then
        if (KH 122).1 = 10 then
          Option.bind (f_X12_counter 122 (xs (x4 + (1 : Int32)).toNatClampNeg) r54.2) (fun r55 =>
            if (KH 122).1 = 10 then
              Option.bind (f_X12_thrown 122 r55.2) (fun r56 =>
                if r56.1 = r54.1 then
                  if ¬ r54.1 = (0 : Int32) then
                    rec (x4 + (5 : Int32)) r56.2
                  else
                    if (KH 161).1 = 12 ∧ eix (0 : Int32) (KH 161).2 = true then
                      if (lg_cmp (r56.2.2 161 (0 : Int32).toNatClampNeg) r55.1.toInt64) = (0 : Int32) then
                        rec (x4 + (5 : Int32)) r56.2
                      else
                        if eB (0 : Int32) = true then some ((0 : Int32), r56.2) else none
                    else none
                else
                  if eB (0 : Int32) = true then some ((0 : Int32), r56.2) else none
                )
            else none
            )
        else none
      else none
      )
  else none

set_option maxHeartbeats 40000000 in
set_option maxRecDepth 20000 in
theorem s_law_18 (N : Nat) (xs : Nat → Int32) (rec : Int32 → eMem → Option (Int32 × eMem)) (C Z : Nat) (ih : ∀ (x4 : Int32) (σ : eMem) (c z : Nat), c ≤ C → z ≤ Z → Snd false (some (N, xs)) 23 m_L_law (rec x4 σ) (cN iI) (23, [(4, .inl (x4)), (3, .inr (.inr (161))), (2, .inr (.inr (122))), (1, .inr (.inr (2))), (0, .inr (.inr (1)))], [], hp σ, c, z)) (x4 : Int32) (σ : eMem) (c z : Nat) (hc : c + 10 ≤ C) (hz : z + 100 ≤ Z) (hC : C ≤ 601024) (hZ : Z ≤ 7293034) : Snd false (some (N, xs)) 23 m_L_law (f_law_18 N xs rec x4 σ) (cN iI) (1239, [(4, .inl (x4)), (3, .inr (.inr (161))), (2, .inr (.inr (122))), (1, .inr (.inr (2))), (0, .inr (.inr (1)))], [], hp σ, c, z) := by
  unfold f_law_18
  refine T_go (S' := (1245, [(4, .inl (x4)), (3, .inr (.inr (161))), (2, .inr (.inr (122))), (1, .inr (.inr (2))), (0, .inr (.inr (1)))], [.inl ((x4 + (1 : Int32))), .inr (.inr (1)), .inr (.inr (2))], hp σ, c, z)) 5 rfl ?_
  refine TL_iald rfl (fun _ => ?_)
  refine T_go (S' := (1247, [(4, .inl (x4)), (3, .inr (.inr (161))), (2, .inr (.inr (122))), (1, .inr (.inr (2))), (0, .inr (.inr (1)))], [.inr (.inr (161)), .inl ((xs (x4 + (1 : Int32)).toNatClampNeg)), .inr (.inr (2))], hp σ, c, z)) 1 rfl ?_
  refine TL_cs (i := iI) (as := [.inr (.inr (2)), .inl ((xs (x4 + (1 : Int32)).toNatClampNeg)), .inr (.inr (161))]) (rest := []) (st := [.inr (.inr (161)), .inl ((xs (x4 + (1 : Int32)).toNatClampNeg)), .inr (.inr (2))]) rfl (lb rfl) rfl rfl ⟨by omega, by omega, lb rfl, lb rfl⟩ (fun _ h => Ew_le (lb rfl) (s_L_counter 2 (xs (x4 + (1 : Int32)).toNatClampNeg) 161 σ _ h)) (fun r54 => ?_)
  show Snd false (some (N, xs)) _ _ _ (cN iI) (1250, [(4, .inl (x4)), (3, .inr (.inr (161))), (2, .inr (.inr (122))), (1, .inr (.inr (2))), (0, .inr (.inr (1)))], [.inl (r54.1)], hp r54.2, c + 1, z + 6)
  refine T_go (S' := (1258, [(5, .inl (r54.1)), (4, .inl (x4)), (3, .inr (.inr (161))), (2, .inr (.inr (122))), (1, .inr (.inr (2))), (0, .inr (.inr (1)))], [.inl ((x4 + (1 : Int32))), .inr (.inr (1)), .inr (.inr (122))], hp r54.2, c + 1, z + 6)) 6 rfl ?_
  refine TL_iald rfl (fun _ => ?_)
  refine TL_cv (i := iI) (as := [.inr (.inr (122)), .inl ((xs (x4 + (1 : Int32)).toNatClampNeg))]) (rest := []) (st := [.inl ((xs (x4 + (1 : Int32)).toNatClampNeg)), .inr (.inr (122))]) rfl rfl rfl ⟨by omega, by omega, lb rfl, lb rfl⟩ (fun _ h => Ew_le (lb rfl) (s_X12_counter 122 (xs (x4 + (1 : Int32)).toNatClampNeg) r54.2 _ h)) (fun _ r55 => ?_)
  show Snd false (some (N, xs)) _ _ _ (cN iI) (1262, [(5, .inl (r54.1)), (4, .inl (x4)), (3, .inr (.inr (161))), (2, .inr (.inr (122))), (1, .inr (.inr (2))), (0, .inr (.inr (1)))], [.inl (r55.1)], hp r55.2, c + 1 + 0, z + 6 + 0)
  refine T_go (S' := (1265, [(6, .inl (r55.1)), (5, .inl (r54.1)), (4, .inl (x4)), (3, .inr (.inr (161))), (2, .inr (.inr (122))), (1, .inr (.inr (2))), (0, .inr (.inr (1)))], [.inr (.inr (122))], hp r55.2, c + 1 + 0, z + 6 + 0)) 2 rfl ?_
  refine TL_cv (i := iI) (as := [.inr (.inr (122))]) (rest := []) (st := [.inr (.inr (122))]) rfl rfl rfl ⟨by omega, by omega, lb rfl, lb rfl⟩ (fun _ h => Ew_le (lb rfl) (s_X12_thrown 122 r55.2 _ h)) (fun _ r56 => ?_)
  show Snd false (some (N, xs)) _ _ _ (cN iI) (1268, [(6, .inl (r55.1)), (5, .inl (r54.1)), (4, .inl (x4)), (3, .inr (.inr (161))), (2, .inr (.inr (122))), (1, .inr (.inr (2))), (0, .inr (.inr (1)))], [.inl (r56.1)], hp r56.2, c + 1 + 0 + 0, z + 6 + 0 + 0)
  refine T_go (S' := (1270, [(6, .inl (r55.1)), (5, .inl (r54.1)), (4, .inl (x4)), (3, .inr (.inr (161))), (2, .inr (.inr (122))), (1, .inr (.inr (2))), (0, .inr (.inr (1)))], [.inl (r54.1), .inl (r56.1)], hp r56.2, c + 1 + 0 + 0, z + 6 + 0 + 0)) 1 rfl ?_
  refine TL_icmp_eq 1275 rfl rfl (fun _ => ?_) (fun _ => ?_)
  · refine T_go (S' := (1277, [(6, .inl (r55.1)), (5, .inl (r54.1)), (4, .inl (x4)), (3, .inr (.inr (161))), (2, .inr (.inr (122))), (1, .inr (.inr (2))), (0, .inr (.inr (1)))], [.inl (r54.1)], hp r56.2, c + 1 + 0 + 0, z + 6 + 0 + 0)) 1 rfl ?_
    refine TL_if_ne 1292 rfl rfl (fun _ => ?_) (fun _ => ?_)
    · refine T_go (S' := (23, [(4, .inl ((x4 + (5 : Int32)))), (6, .inl (r55.1)), (5, .inl (r54.1)), (3, .inr (.inr (161))), (2, .inr (.inr (122))), (1, .inr (.inr (2))), (0, .inr (.inr (1)))], [], hp r56.2, c + 1 + 0 + 0, z + 6 + 0 + 0)) 3 rfl ?_
      refine T_loc (ls' := [(4, .inl ((x4 + (5 : Int32)))), (3, .inr (.inr (161))), (2, .inr (.inr (122))), (1, .inr (.inr (2))), (0, .inr (.inr (1)))]) [0, 3, 4, 5, 6] rfl ?_
      exact ih (x4 + (5 : Int32)) r56.2 (c + 1 + 0 + 0) (z + 6 + 0 + 0) (by omega) (by omega)
    · refine T_go (S' := (1282, [(6, .inl (r55.1)), (5, .inl (r54.1)), (4, .inl (x4)), (3, .inr (.inr (161))), (2, .inr (.inr (122))), (1, .inr (.inr (2))), (0, .inr (.inr (1)))], [.inl ((0 : Int32)), .inr (.inr (161))], hp r56.2, c + 1 + 0 + 0, z + 6 + 0 + 0)) 2 rfl ?_
      refine TL_lald rfl (fun _ => ?_)
      refine T_go (S' := (1287, [(6, .inl (r55.1)), (5, .inl (r54.1)), (4, .inl (x4)), (3, .inr (.inr (161))), (2, .inr (.inr (122))), (1, .inr (.inr (2))), (0, .inr (.inr (1)))], [.inl ((lg_cmp (r56.2.2 161 (0 : Int32).toNatClampNeg) r55.1.toInt64))], hp r56.2, c + 1 + 0 + 0, z + 6 + 0 + 0)) 3 rfl ?_
      refine TL_if_eq 1292 rfl rfl (fun _ => ?_) (fun _ => ?_)
      · refine T_go (S' := (23, [(4, .inl ((x4 + (5 : Int32)))), (6, .inl (r55.1)), (5, .inl (r54.1)), (3, .inr (.inr (161))), (2, .inr (.inr (122))), (1, .inr (.inr (2))), (0, .inr (.inr (1)))], [], hp r56.2, c + 1 + 0 + 0, z + 6 + 0 + 0)) 3 rfl ?_
        refine T_loc (ls' := [(4, .inl ((x4 + (5 : Int32)))), (3, .inr (.inr (161))), (2, .inr (.inr (122))), (1, .inr (.inr (2))), (0, .inr (.inr (1)))]) [0, 3, 4, 5, 6] rfl ?_
        exact ih (x4 + (5 : Int32)) r56.2 (c + 1 + 0 + 0) (z + 6 + 0 + 0) (by omega) (by omega)
      · refine T_go (S' := (1291, [(6, .inl (r55.1)), (5, .inl (r54.1)), (4, .inl (x4)), (3, .inr (.inr (161))), (2, .inr (.inr (122))), (1, .inr (.inr (2))), (0, .inr (.inr (1)))], [.inl ((0 : Int32))], hp r56.2, c + 1 + 0 + 0, z + 6 + 0 + 0)) 1 rfl ?_
        exact T_chkr rfl
  · refine T_go (S' := (1274, [(6, .inl (r55.1)), (5, .inl (r54.1)), (4, .inl (x4)), (3, .inr (.inr (161))), (2, .inr (.inr (122))), (1, .inr (.inr (2))), (0, .inr (.inr (1)))], [.inl ((0 : Int32))], hp r56.2, c + 1 + 0 + 0, z + 6 + 0 + 0)) 1 rfl ?_
    exact T_chkr rfl

set_option maxRecDepth 20000 in
def f_law_19 (N : Nat) (xs : Nat → Int32) (rec : Int32 → eMem → Option (Int32 × eMem)) (x4 : Int32) (σ : eMem) : Option (Int32 × eMem) :=
  if (KH 2).1 = 9 then
    Option.bind (f_X11_clear 2 σ) (fun r57 =>
      if (KH 122).1 = 10 then
        Option.bind (f_X12_clear 122 r57.2) (fun r58 =>
          if r57.1 = r58.1 then
            rec (x4 + (5 : Int32)) r58.2
          else
            if eB (0 : Int32) = true then some ((0 : Int32), r58.2) else none
          )
      else none
      )
  else none

set_option maxHeartbeats 40000000 in
set_option maxRecDepth 20000 in
theorem s_law_19 (N : Nat) (xs : Nat → Int32) (rec : Int32 → eMem → Option (Int32 × eMem)) (C Z : Nat) (ih : ∀ (x4 : Int32) (σ : eMem) (c z : Nat), c ≤ C → z ≤ Z → Snd false (some (N, xs)) 23 m_L_law (rec x4 σ) (cN iI) (23, [(4, .inl (x4)), (3, .inr (.inr (161))), (2, .inr (.inr (122))), (1, .inr (.inr (2))), (0, .inr (.inr (1)))], [], hp σ, c, z)) (x4 : Int32) (σ : eMem) (c z : Nat) (hc : c + 10 ≤ C) (hz : z + 100 ≤ Z) (hC : C ≤ 601024) (hZ : Z ≤ 7293034) : Snd false (some (N, xs)) 23 m_L_law (f_law_19 N xs rec x4 σ) (cN iI) (1295, [(4, .inl (x4)), (3, .inr (.inr (161))), (2, .inr (.inr (122))), (1, .inr (.inr (2))), (0, .inr (.inr (1)))], [], hp σ, c, z) := by
  unfold f_law_19
  refine T_go (S' := (1296, [(4, .inl (x4)), (3, .inr (.inr (161))), (2, .inr (.inr (122))), (1, .inr (.inr (2))), (0, .inr (.inr (1)))], [.inr (.inr (2))], hp σ, c, z)) 1 rfl ?_
  refine TL_cv (i := iI) (as := [.inr (.inr (2))]) (rest := []) (st := [.inr (.inr (2))]) rfl rfl rfl ⟨by omega, by omega, lb rfl, lb rfl⟩ (fun _ h => Ew_le (lb rfl) (s_X11_clear 2 σ _ h)) (fun _ r57 => ?_)
  show Snd false (some (N, xs)) _ _ _ (cN iI) (1299, [(4, .inl (x4)), (3, .inr (.inr (161))), (2, .inr (.inr (122))), (1, .inr (.inr (2))), (0, .inr (.inr (1)))], [.inl (r57.1)], hp r57.2, c + 0, z + 0)
  refine T_go (S' := (1300, [(4, .inl (x4)), (3, .inr (.inr (161))), (2, .inr (.inr (122))), (1, .inr (.inr (2))), (0, .inr (.inr (1)))], [.inr (.inr (122)), .inl (r57.1)], hp r57.2, c + 0, z + 0)) 1 rfl ?_
  refine TL_cv (i := iI) (as := [.inr (.inr (122))]) (rest := [.inl (r57.1)]) (st := [.inr (.inr (122)), .inl (r57.1)]) rfl rfl rfl ⟨by omega, by omega, lb rfl, lb rfl⟩ (fun _ h => Ew_le (lb rfl) (s_X12_clear 122 r57.2 _ h)) (fun _ r58 => ?_)
  show Snd false (some (N, xs)) _ _ _ (cN iI) (1303, [(4, .inl (x4)), (3, .inr (.inr (161))), (2, .inr (.inr (122))), (1, .inr (.inr (2))), (0, .inr (.inr (1)))], [.inl (r58.1), .inl (r57.1)], hp r58.2, c + 0 + 0, z + 0 + 0)
  refine TL_icmp_eq 1593 rfl rfl (fun _ => ?_) (fun _ => ?_)
  · refine T_go (S' := (23, [(4, .inl ((x4 + (5 : Int32)))), (3, .inr (.inr (161))), (2, .inr (.inr (122))), (1, .inr (.inr (2))), (0, .inr (.inr (1)))], [], hp r58.2, c + 0 + 0, z + 0 + 0)) 2 rfl ?_
    refine T_loc (ls' := [(4, .inl ((x4 + (5 : Int32)))), (3, .inr (.inr (161))), (2, .inr (.inr (122))), (1, .inr (.inr (2))), (0, .inr (.inr (1)))]) [0, 1, 2, 3, 4] rfl ?_
    exact ih (x4 + (5 : Int32)) r58.2 (c + 0 + 0) (z + 0 + 0) (by omega) (by omega)
  · refine T_go (S' := (1307, [(4, .inl (x4)), (3, .inr (.inr (161))), (2, .inr (.inr (122))), (1, .inr (.inr (2))), (0, .inr (.inr (1)))], [.inl ((0 : Int32))], hp r58.2, c + 0 + 0, z + 0 + 0)) 1 rfl ?_
    exact T_chkr rfl

set_option maxRecDepth 20000 in
def f_law_20 (N : Nat) (xs : Nat → Int32) (rec : Int32 → eMem → Option (Int32 × eMem)) (x4 : Int32) (σ : eMem) : Option (Int32 × eMem) :=
  if eix (x4 + (1 : Int32)) N = true then
    if eix (x4 + (2 : Int32)) N = true then
      if eix (x4 + (3 : Int32)) N = true then
        if eix (x4 + (4 : Int32)) N = true then
          Option.bind (f_L_step 2 (xs (x4 + (1 : Int32)).toNatClampNeg) (xs (x4 + (2 : Int32)).toNatClampNeg) (xs (x4 + (3 : Int32)).toNatClampNeg) (xs (x4 + (4 : Int32)).toNatClampNeg) 161 σ) (fun r59 =>
            if eix (x4 + (1 : Int32)) N = true then
              if eix (x4 + (2 : Int32)) N = true then
                if eix (x4 + (3 : Int32)) N = true then
                  if eix (x4 + (4 : Int32)) N = true then
                    if (KH 122).1 = 10 then
                      Option.bind (f_X12_step 122 (xs (x4 + (1 : Int32)).toNatClampNeg) (xs (x4 + (2 : Int32)).toNatClampNeg) (xs (x4 + (3 : Int32)).toNatClampNeg) (xs (x4 + (4 : Int32)).toNatClampNeg) r59.2) (fun r60 =>
                        if (KH 122).1 = 10 then
                          Option.bind (f_X12_thrown 122 r60.2) (fun r61 =>
                            if r61.1 = r59.1 then
                              if ¬ r59.1 = (0 : Int32) then
                                rec (x4 + (5 : Int32)) r61.2
                              else
                                if (KH 161).1 = 12 ∧ eix (0 : Int32) (KH 161).2 = true then
                                  if (lg_cmp (r61.2.2 161 (0 : Int32).toNatClampNeg) r60.1.toInt64) = (0 : Int32) then
                                    rec (x4 + (5 : Int32)) r61.2
                                  else
                                    if eB (0 : Int32) = true then some ((0 : Int32), r61.2) else none
                                else none
                            else
                              if eB (0 : Int32) = true then some ((0 : Int32), r61.2) else none
                            )
                        else none
                        )
                    else none
                  else none
                else none
              else none
            else none
            )
        else none
      else none
    else none
  else none

set_option maxHeartbeats 40000000 in
set_option maxRecDepth 20000 in
theorem s_law_20 (N : Nat) (xs : Nat → Int32) (rec : Int32 → eMem → Option (Int32 × eMem)) (C Z : Nat) (ih : ∀ (x4 : Int32) (σ : eMem) (c z : Nat), c ≤ C → z ≤ Z → Snd false (some (N, xs)) 23 m_L_law (rec x4 σ) (cN iI) (23, [(4, .inl (x4)), (3, .inr (.inr (161))), (2, .inr (.inr (122))), (1, .inr (.inr (2))), (0, .inr (.inr (1)))], [], hp σ, c, z)) (x4 : Int32) (σ : eMem) (c z : Nat) (hc : c + 10 ≤ C) (hz : z + 100 ≤ Z) (hC : C ≤ 601024) (hZ : Z ≤ 7293034) : Snd false (some (N, xs)) 23 m_L_law (f_law_20 N xs rec x4 σ) (cN iI) (1308, [(4, .inl (x4)), (3, .inr (.inr (161))), (2, .inr (.inr (122))), (1, .inr (.inr (2))), (0, .inr (.inr (1)))], [], hp σ, c, z) := by
  unfold f_law_20
  refine T_go (S' := (1314, [(4, .inl (x4)), (3, .inr (.inr (161))), (2, .inr (.inr (122))), (1, .inr (.inr (2))), (0, .inr (.inr (1)))], [.inl ((x4 + (1 : Int32))), .inr (.inr (1)), .inr (.inr (2))], hp σ, c, z)) 5 rfl ?_
  refine TL_iald rfl (fun _ => ?_)
  refine T_go (S' := (1320, [(4, .inl (x4)), (3, .inr (.inr (161))), (2, .inr (.inr (122))), (1, .inr (.inr (2))), (0, .inr (.inr (1)))], [.inl ((x4 + (2 : Int32))), .inr (.inr (1)), .inl ((xs (x4 + (1 : Int32)).toNatClampNeg)), .inr (.inr (2))], hp σ, c, z)) 4 rfl ?_
  refine TL_iald rfl (fun _ => ?_)
  refine T_go (S' := (1326, [(4, .inl (x4)), (3, .inr (.inr (161))), (2, .inr (.inr (122))), (1, .inr (.inr (2))), (0, .inr (.inr (1)))], [.inl ((x4 + (3 : Int32))), .inr (.inr (1)), .inl ((xs (x4 + (2 : Int32)).toNatClampNeg)), .inl ((xs (x4 + (1 : Int32)).toNatClampNeg)), .inr (.inr (2))], hp σ, c, z)) 4 rfl ?_
  refine TL_iald rfl (fun _ => ?_)
  refine T_go (S' := (1332, [(4, .inl (x4)), (3, .inr (.inr (161))), (2, .inr (.inr (122))), (1, .inr (.inr (2))), (0, .inr (.inr (1)))], [.inl ((x4 + (4 : Int32))), .inr (.inr (1)), .inl ((xs (x4 + (3 : Int32)).toNatClampNeg)), .inl ((xs (x4 + (2 : Int32)).toNatClampNeg)), .inl ((xs (x4 + (1 : Int32)).toNatClampNeg)), .inr (.inr (2))], hp σ, c, z)) 4 rfl ?_
  refine TL_iald rfl (fun _ => ?_)
  refine T_go (S' := (1334, [(4, .inl (x4)), (3, .inr (.inr (161))), (2, .inr (.inr (122))), (1, .inr (.inr (2))), (0, .inr (.inr (1)))], [.inr (.inr (161)), .inl ((xs (x4 + (4 : Int32)).toNatClampNeg)), .inl ((xs (x4 + (3 : Int32)).toNatClampNeg)), .inl ((xs (x4 + (2 : Int32)).toNatClampNeg)), .inl ((xs (x4 + (1 : Int32)).toNatClampNeg)), .inr (.inr (2))], hp σ, c, z)) 1 rfl ?_
  refine TL_cs (i := iI) (as := [.inr (.inr (2)), .inl ((xs (x4 + (1 : Int32)).toNatClampNeg)), .inl ((xs (x4 + (2 : Int32)).toNatClampNeg)), .inl ((xs (x4 + (3 : Int32)).toNatClampNeg)), .inl ((xs (x4 + (4 : Int32)).toNatClampNeg)), .inr (.inr (161))]) (rest := []) (st := [.inr (.inr (161)), .inl ((xs (x4 + (4 : Int32)).toNatClampNeg)), .inl ((xs (x4 + (3 : Int32)).toNatClampNeg)), .inl ((xs (x4 + (2 : Int32)).toNatClampNeg)), .inl ((xs (x4 + (1 : Int32)).toNatClampNeg)), .inr (.inr (2))]) rfl (lb rfl) rfl rfl ⟨by omega, by omega, lb rfl, lb rfl⟩ (fun _ h => Ew_le (lb rfl) (s_L_step 2 (xs (x4 + (1 : Int32)).toNatClampNeg) (xs (x4 + (2 : Int32)).toNatClampNeg) (xs (x4 + (3 : Int32)).toNatClampNeg) (xs (x4 + (4 : Int32)).toNatClampNeg) 161 σ _ h)) (fun r59 => ?_)
  show Snd false (some (N, xs)) _ _ _ (cN iI) (1337, [(4, .inl (x4)), (3, .inr (.inr (161))), (2, .inr (.inr (122))), (1, .inr (.inr (2))), (0, .inr (.inr (1)))], [.inl (r59.1)], hp r59.2, c + 5, z + 30)
  refine T_go (S' := (1345, [(5, .inl (r59.1)), (4, .inl (x4)), (3, .inr (.inr (161))), (2, .inr (.inr (122))), (1, .inr (.inr (2))), (0, .inr (.inr (1)))], [.inl ((x4 + (1 : Int32))), .inr (.inr (1)), .inr (.inr (122))], hp r59.2, c + 5, z + 30)) 6 rfl ?_
  refine TL_iald rfl (fun _ => ?_)
  refine T_go (S' := (1351, [(5, .inl (r59.1)), (4, .inl (x4)), (3, .inr (.inr (161))), (2, .inr (.inr (122))), (1, .inr (.inr (2))), (0, .inr (.inr (1)))], [.inl ((x4 + (2 : Int32))), .inr (.inr (1)), .inl ((xs (x4 + (1 : Int32)).toNatClampNeg)), .inr (.inr (122))], hp r59.2, c + 5, z + 30)) 4 rfl ?_
  refine TL_iald rfl (fun _ => ?_)
  refine T_go (S' := (1357, [(5, .inl (r59.1)), (4, .inl (x4)), (3, .inr (.inr (161))), (2, .inr (.inr (122))), (1, .inr (.inr (2))), (0, .inr (.inr (1)))], [.inl ((x4 + (3 : Int32))), .inr (.inr (1)), .inl ((xs (x4 + (2 : Int32)).toNatClampNeg)), .inl ((xs (x4 + (1 : Int32)).toNatClampNeg)), .inr (.inr (122))], hp r59.2, c + 5, z + 30)) 4 rfl ?_
  refine TL_iald rfl (fun _ => ?_)
  refine T_go (S' := (1363, [(5, .inl (r59.1)), (4, .inl (x4)), (3, .inr (.inr (161))), (2, .inr (.inr (122))), (1, .inr (.inr (2))), (0, .inr (.inr (1)))], [.inl ((x4 + (4 : Int32))), .inr (.inr (1)), .inl ((xs (x4 + (3 : Int32)).toNatClampNeg)), .inl ((xs (x4 + (2 : Int32)).toNatClampNeg)), .inl ((xs (x4 + (1 : Int32)).toNatClampNeg)), .inr (.inr (122))], hp r59.2, c + 5, z + 30)) 4 rfl ?_
  refine TL_iald rfl (fun _ => ?_)
  refine TL_cv (i := iI) (as := [.inr (.inr (122)), .inl ((xs (x4 + (1 : Int32)).toNatClampNeg)), .inl ((xs (x4 + (2 : Int32)).toNatClampNeg)), .inl ((xs (x4 + (3 : Int32)).toNatClampNeg)), .inl ((xs (x4 + (4 : Int32)).toNatClampNeg))]) (rest := []) (st := [.inl ((xs (x4 + (4 : Int32)).toNatClampNeg)), .inl ((xs (x4 + (3 : Int32)).toNatClampNeg)), .inl ((xs (x4 + (2 : Int32)).toNatClampNeg)), .inl ((xs (x4 + (1 : Int32)).toNatClampNeg)), .inr (.inr (122))]) rfl rfl rfl ⟨by omega, by omega, lb rfl, lb rfl⟩ (fun _ h => Ew_le (lb rfl) (s_X12_step 122 (xs (x4 + (1 : Int32)).toNatClampNeg) (xs (x4 + (2 : Int32)).toNatClampNeg) (xs (x4 + (3 : Int32)).toNatClampNeg) (xs (x4 + (4 : Int32)).toNatClampNeg) r59.2 _ h)) (fun _ r60 => ?_)
  show Snd false (some (N, xs)) _ _ _ (cN iI) (1367, [(5, .inl (r59.1)), (4, .inl (x4)), (3, .inr (.inr (161))), (2, .inr (.inr (122))), (1, .inr (.inr (2))), (0, .inr (.inr (1)))], [.inl (r60.1)], hp r60.2, c + 5 + 0, z + 30 + 0)
  refine T_go (S' := (1370, [(6, .inl (r60.1)), (5, .inl (r59.1)), (4, .inl (x4)), (3, .inr (.inr (161))), (2, .inr (.inr (122))), (1, .inr (.inr (2))), (0, .inr (.inr (1)))], [.inr (.inr (122))], hp r60.2, c + 5 + 0, z + 30 + 0)) 2 rfl ?_
  refine TL_cv (i := iI) (as := [.inr (.inr (122))]) (rest := []) (st := [.inr (.inr (122))]) rfl rfl rfl ⟨by omega, by omega, lb rfl, lb rfl⟩ (fun _ h => Ew_le (lb rfl) (s_X12_thrown 122 r60.2 _ h)) (fun _ r61 => ?_)
  show Snd false (some (N, xs)) _ _ _ (cN iI) (1373, [(6, .inl (r60.1)), (5, .inl (r59.1)), (4, .inl (x4)), (3, .inr (.inr (161))), (2, .inr (.inr (122))), (1, .inr (.inr (2))), (0, .inr (.inr (1)))], [.inl (r61.1)], hp r61.2, c + 5 + 0 + 0, z + 30 + 0 + 0)
  refine T_go (S' := (1375, [(6, .inl (r60.1)), (5, .inl (r59.1)), (4, .inl (x4)), (3, .inr (.inr (161))), (2, .inr (.inr (122))), (1, .inr (.inr (2))), (0, .inr (.inr (1)))], [.inl (r59.1), .inl (r61.1)], hp r61.2, c + 5 + 0 + 0, z + 30 + 0 + 0)) 1 rfl ?_
  refine TL_icmp_eq 1380 rfl rfl (fun _ => ?_) (fun _ => ?_)
  · refine T_go (S' := (1382, [(6, .inl (r60.1)), (5, .inl (r59.1)), (4, .inl (x4)), (3, .inr (.inr (161))), (2, .inr (.inr (122))), (1, .inr (.inr (2))), (0, .inr (.inr (1)))], [.inl (r59.1)], hp r61.2, c + 5 + 0 + 0, z + 30 + 0 + 0)) 1 rfl ?_
    refine TL_if_ne 1397 rfl rfl (fun _ => ?_) (fun _ => ?_)
    · refine T_go (S' := (23, [(4, .inl ((x4 + (5 : Int32)))), (6, .inl (r60.1)), (5, .inl (r59.1)), (3, .inr (.inr (161))), (2, .inr (.inr (122))), (1, .inr (.inr (2))), (0, .inr (.inr (1)))], [], hp r61.2, c + 5 + 0 + 0, z + 30 + 0 + 0)) 3 rfl ?_
      refine T_loc (ls' := [(4, .inl ((x4 + (5 : Int32)))), (3, .inr (.inr (161))), (2, .inr (.inr (122))), (1, .inr (.inr (2))), (0, .inr (.inr (1)))]) [0, 3, 4, 5, 6] rfl ?_
      exact ih (x4 + (5 : Int32)) r61.2 (c + 5 + 0 + 0) (z + 30 + 0 + 0) (by omega) (by omega)
    · refine T_go (S' := (1387, [(6, .inl (r60.1)), (5, .inl (r59.1)), (4, .inl (x4)), (3, .inr (.inr (161))), (2, .inr (.inr (122))), (1, .inr (.inr (2))), (0, .inr (.inr (1)))], [.inl ((0 : Int32)), .inr (.inr (161))], hp r61.2, c + 5 + 0 + 0, z + 30 + 0 + 0)) 2 rfl ?_
      refine TL_lald rfl (fun _ => ?_)
      refine T_go (S' := (1392, [(6, .inl (r60.1)), (5, .inl (r59.1)), (4, .inl (x4)), (3, .inr (.inr (161))), (2, .inr (.inr (122))), (1, .inr (.inr (2))), (0, .inr (.inr (1)))], [.inl ((lg_cmp (r61.2.2 161 (0 : Int32).toNatClampNeg) r60.1.toInt64))], hp r61.2, c + 5 + 0 + 0, z + 30 + 0 + 0)) 3 rfl ?_
      refine TL_if_eq 1397 rfl rfl (fun _ => ?_) (fun _ => ?_)
      · refine T_go (S' := (23, [(4, .inl ((x4 + (5 : Int32)))), (6, .inl (r60.1)), (5, .inl (r59.1)), (3, .inr (.inr (161))), (2, .inr (.inr (122))), (1, .inr (.inr (2))), (0, .inr (.inr (1)))], [], hp r61.2, c + 5 + 0 + 0, z + 30 + 0 + 0)) 3 rfl ?_
        refine T_loc (ls' := [(4, .inl ((x4 + (5 : Int32)))), (3, .inr (.inr (161))), (2, .inr (.inr (122))), (1, .inr (.inr (2))), (0, .inr (.inr (1)))]) [0, 3, 4, 5, 6] rfl ?_
        exact ih (x4 + (5 : Int32)) r61.2 (c + 5 + 0 + 0) (z + 30 + 0 + 0) (by omega) (by omega)
      · refine T_go (S' := (1396, [(6, .inl (r60.1)), (5, .inl (r59.1)), (4, .inl (x4)), (3, .inr (.inr (161))), (2, .inr (.inr (122))), (1, .inr (.inr (2))), (0, .inr (.inr (1)))], [.inl ((0 : Int32))], hp r61.2, c + 5 + 0 + 0, z + 30 + 0 + 0)) 1 rfl ?_
        exact T_chkr rfl
  · refine T_go (S' := (1379, [(6, .inl (r60.1)), (5, .inl (r59.1)), (4, .inl (x4)), (3, .inr (.inr (161))), (2, .inr (.inr (122))), (1, .inr (.inr (2))), (0, .inr (.inr (1)))], [.inl ((0 : Int32))], hp r61.2, c + 5 + 0 + 0, z + 30 + 0 + 0)) 1 rfl ?_
    exact T_chkr rfl

set_option maxRecDepth 20000 in
def f_law_21 (N : Nat) (xs : Nat → Int32) (rec : Int32 → eMem → Option (Int32 × eMem)) (x4 : Int32) (σ : eMem) : Option (Int32 × eMem) :=
  if eix (x4 + (1 : Int32)) N = true then
    Option.bind (f_L_outcomes 2 (xs (x4 + (1 : Int32)).toNatClampNeg) 161 σ) (fun r62 =>
      if eix (x4 + (1 : Int32)) N = true then
        if (KH 122).1 = 10 then
          Option.bind (f_X12_outcomes 122 (xs (x4 + (1 : Int32)).toNatClampNeg) r62.2) (fun r63 =>
            if (KH 122).1 = 10 then
              Option.bind (f_X12_thrown 122 r63.2) (fun r64 =>
                if r64.1 = r62.1 then
                  if ¬ r62.1 = (0 : Int32) then
                    rec (x4 + (5 : Int32)) r64.2
                  else
                    if (KH 161).1 = 12 ∧ eix (0 : Int32) (KH 161).2 = true then
                      if (lg_cmp (r64.2.2 161 (0 : Int32).toNatClampNeg) r63.1.toInt64) = (0 : Int32) then
                        rec (x4 + (5 : Int32)) r64.2
                      else
                        if eB (0 : Int32) = true then some ((0 : Int32), r64.2) else none
                    else none
                else
                  if eB (0 : Int32) = true then some ((0 : Int32), r64.2) else none
                )
            else none
            )
        else none
      else none
      )
  else none

set_option maxHeartbeats 40000000 in
set_option maxRecDepth 20000 in
theorem s_law_21 (N : Nat) (xs : Nat → Int32) (rec : Int32 → eMem → Option (Int32 × eMem)) (C Z : Nat) (ih : ∀ (x4 : Int32) (σ : eMem) (c z : Nat), c ≤ C → z ≤ Z → Snd false (some (N, xs)) 23 m_L_law (rec x4 σ) (cN iI) (23, [(4, .inl (x4)), (3, .inr (.inr (161))), (2, .inr (.inr (122))), (1, .inr (.inr (2))), (0, .inr (.inr (1)))], [], hp σ, c, z)) (x4 : Int32) (σ : eMem) (c z : Nat) (hc : c + 10 ≤ C) (hz : z + 100 ≤ Z) (hC : C ≤ 601024) (hZ : Z ≤ 7293034) : Snd false (some (N, xs)) 23 m_L_law (f_law_21 N xs rec x4 σ) (cN iI) (1400, [(4, .inl (x4)), (3, .inr (.inr (161))), (2, .inr (.inr (122))), (1, .inr (.inr (2))), (0, .inr (.inr (1)))], [], hp σ, c, z) := by
  unfold f_law_21
  refine T_go (S' := (1406, [(4, .inl (x4)), (3, .inr (.inr (161))), (2, .inr (.inr (122))), (1, .inr (.inr (2))), (0, .inr (.inr (1)))], [.inl ((x4 + (1 : Int32))), .inr (.inr (1)), .inr (.inr (2))], hp σ, c, z)) 5 rfl ?_
  refine TL_iald rfl (fun _ => ?_)
  refine T_go (S' := (1408, [(4, .inl (x4)), (3, .inr (.inr (161))), (2, .inr (.inr (122))), (1, .inr (.inr (2))), (0, .inr (.inr (1)))], [.inr (.inr (161)), .inl ((xs (x4 + (1 : Int32)).toNatClampNeg)), .inr (.inr (2))], hp σ, c, z)) 1 rfl ?_
  refine TL_cs (i := iI) (as := [.inr (.inr (2)), .inl ((xs (x4 + (1 : Int32)).toNatClampNeg)), .inr (.inr (161))]) (rest := []) (st := [.inr (.inr (161)), .inl ((xs (x4 + (1 : Int32)).toNatClampNeg)), .inr (.inr (2))]) rfl (lb rfl) rfl rfl ⟨by omega, by omega, lb rfl, lb rfl⟩ (fun _ h => Ew_le (lb rfl) (s_L_outcomes 2 (xs (x4 + (1 : Int32)).toNatClampNeg) 161 σ _ h)) (fun r62 => ?_)
  show Snd false (some (N, xs)) _ _ _ (cN iI) (1411, [(4, .inl (x4)), (3, .inr (.inr (161))), (2, .inr (.inr (122))), (1, .inr (.inr (2))), (0, .inr (.inr (1)))], [.inl (r62.1)], hp r62.2, c + 1, z + 6)
  refine T_go (S' := (1419, [(5, .inl (r62.1)), (4, .inl (x4)), (3, .inr (.inr (161))), (2, .inr (.inr (122))), (1, .inr (.inr (2))), (0, .inr (.inr (1)))], [.inl ((x4 + (1 : Int32))), .inr (.inr (1)), .inr (.inr (122))], hp r62.2, c + 1, z + 6)) 6 rfl ?_
  refine TL_iald rfl (fun _ => ?_)
  refine TL_cv (i := iI) (as := [.inr (.inr (122)), .inl ((xs (x4 + (1 : Int32)).toNatClampNeg))]) (rest := []) (st := [.inl ((xs (x4 + (1 : Int32)).toNatClampNeg)), .inr (.inr (122))]) rfl rfl rfl ⟨by omega, by omega, lb rfl, lb rfl⟩ (fun _ h => Ew_le (lb rfl) (s_X12_outcomes 122 (xs (x4 + (1 : Int32)).toNatClampNeg) r62.2 _ h)) (fun _ r63 => ?_)
  show Snd false (some (N, xs)) _ _ _ (cN iI) (1423, [(5, .inl (r62.1)), (4, .inl (x4)), (3, .inr (.inr (161))), (2, .inr (.inr (122))), (1, .inr (.inr (2))), (0, .inr (.inr (1)))], [.inl (r63.1)], hp r63.2, c + 1 + 0, z + 6 + 0)
  refine T_go (S' := (1426, [(6, .inl (r63.1)), (5, .inl (r62.1)), (4, .inl (x4)), (3, .inr (.inr (161))), (2, .inr (.inr (122))), (1, .inr (.inr (2))), (0, .inr (.inr (1)))], [.inr (.inr (122))], hp r63.2, c + 1 + 0, z + 6 + 0)) 2 rfl ?_
  refine TL_cv (i := iI) (as := [.inr (.inr (122))]) (rest := []) (st := [.inr (.inr (122))]) rfl rfl rfl ⟨by omega, by omega, lb rfl, lb rfl⟩ (fun _ h => Ew_le (lb rfl) (s_X12_thrown 122 r63.2 _ h)) (fun _ r64 => ?_)
  show Snd false (some (N, xs)) _ _ _ (cN iI) (1429, [(6, .inl (r63.1)), (5, .inl (r62.1)), (4, .inl (x4)), (3, .inr (.inr (161))), (2, .inr (.inr (122))), (1, .inr (.inr (2))), (0, .inr (.inr (1)))], [.inl (r64.1)], hp r64.2, c + 1 + 0 + 0, z + 6 + 0 + 0)
  refine T_go (S' := (1431, [(6, .inl (r63.1)), (5, .inl (r62.1)), (4, .inl (x4)), (3, .inr (.inr (161))), (2, .inr (.inr (122))), (1, .inr (.inr (2))), (0, .inr (.inr (1)))], [.inl (r62.1), .inl (r64.1)], hp r64.2, c + 1 + 0 + 0, z + 6 + 0 + 0)) 1 rfl ?_
  refine TL_icmp_eq 1436 rfl rfl (fun _ => ?_) (fun _ => ?_)
  · refine T_go (S' := (1438, [(6, .inl (r63.1)), (5, .inl (r62.1)), (4, .inl (x4)), (3, .inr (.inr (161))), (2, .inr (.inr (122))), (1, .inr (.inr (2))), (0, .inr (.inr (1)))], [.inl (r62.1)], hp r64.2, c + 1 + 0 + 0, z + 6 + 0 + 0)) 1 rfl ?_
    refine TL_if_ne 1453 rfl rfl (fun _ => ?_) (fun _ => ?_)
    · refine T_go (S' := (23, [(4, .inl ((x4 + (5 : Int32)))), (6, .inl (r63.1)), (5, .inl (r62.1)), (3, .inr (.inr (161))), (2, .inr (.inr (122))), (1, .inr (.inr (2))), (0, .inr (.inr (1)))], [], hp r64.2, c + 1 + 0 + 0, z + 6 + 0 + 0)) 3 rfl ?_
      refine T_loc (ls' := [(4, .inl ((x4 + (5 : Int32)))), (3, .inr (.inr (161))), (2, .inr (.inr (122))), (1, .inr (.inr (2))), (0, .inr (.inr (1)))]) [0, 3, 4, 5, 6] rfl ?_
      exact ih (x4 + (5 : Int32)) r64.2 (c + 1 + 0 + 0) (z + 6 + 0 + 0) (by omega) (by omega)
    · refine T_go (S' := (1443, [(6, .inl (r63.1)), (5, .inl (r62.1)), (4, .inl (x4)), (3, .inr (.inr (161))), (2, .inr (.inr (122))), (1, .inr (.inr (2))), (0, .inr (.inr (1)))], [.inl ((0 : Int32)), .inr (.inr (161))], hp r64.2, c + 1 + 0 + 0, z + 6 + 0 + 0)) 2 rfl ?_
      refine TL_lald rfl (fun _ => ?_)
      refine T_go (S' := (1448, [(6, .inl (r63.1)), (5, .inl (r62.1)), (4, .inl (x4)), (3, .inr (.inr (161))), (2, .inr (.inr (122))), (1, .inr (.inr (2))), (0, .inr (.inr (1)))], [.inl ((lg_cmp (r64.2.2 161 (0 : Int32).toNatClampNeg) r63.1.toInt64))], hp r64.2, c + 1 + 0 + 0, z + 6 + 0 + 0)) 3 rfl ?_
      refine TL_if_eq 1453 rfl rfl (fun _ => ?_) (fun _ => ?_)
      · refine T_go (S' := (23, [(4, .inl ((x4 + (5 : Int32)))), (6, .inl (r63.1)), (5, .inl (r62.1)), (3, .inr (.inr (161))), (2, .inr (.inr (122))), (1, .inr (.inr (2))), (0, .inr (.inr (1)))], [], hp r64.2, c + 1 + 0 + 0, z + 6 + 0 + 0)) 3 rfl ?_
        refine T_loc (ls' := [(4, .inl ((x4 + (5 : Int32)))), (3, .inr (.inr (161))), (2, .inr (.inr (122))), (1, .inr (.inr (2))), (0, .inr (.inr (1)))]) [0, 3, 4, 5, 6] rfl ?_
        exact ih (x4 + (5 : Int32)) r64.2 (c + 1 + 0 + 0) (z + 6 + 0 + 0) (by omega) (by omega)
      · refine T_go (S' := (1452, [(6, .inl (r63.1)), (5, .inl (r62.1)), (4, .inl (x4)), (3, .inr (.inr (161))), (2, .inr (.inr (122))), (1, .inr (.inr (2))), (0, .inr (.inr (1)))], [.inl ((0 : Int32))], hp r64.2, c + 1 + 0 + 0, z + 6 + 0 + 0)) 1 rfl ?_
        exact T_chkr rfl
  · refine T_go (S' := (1435, [(6, .inl (r63.1)), (5, .inl (r62.1)), (4, .inl (x4)), (3, .inr (.inr (161))), (2, .inr (.inr (122))), (1, .inr (.inr (2))), (0, .inr (.inr (1)))], [.inl ((0 : Int32))], hp r64.2, c + 1 + 0 + 0, z + 6 + 0 + 0)) 1 rfl ?_
    exact T_chkr rfl

set_option maxRecDepth 20000 in
def f_law_22 (N : Nat) (xs : Nat → Int32) (rec : Int32 → eMem → Option (Int32 × eMem)) (x4 : Int32) (σ : eMem) : Option (Int32 × eMem) :=
  if eix (x4 + (1 : Int32)) N = true then
    if eix (x4 + (2 : Int32)) N = true then
      Option.bind (f_L_outcome 2 (xs (x4 + (1 : Int32)).toNatClampNeg) (xs (x4 + (2 : Int32)).toNatClampNeg) 161 σ) (fun r65 =>
        if eix (x4 + (1 : Int32)) N = true then
          if eix (x4 + (2 : Int32)) N = true then
            if (KH 122).1 = 10 then
              Option.bind (f_X12_outcome 122 (xs (x4 + (1 : Int32)).toNatClampNeg) (xs (x4 + (2 : Int32)).toNatClampNeg) r65.2) (fun r66 =>
                if (KH 122).1 = 10 then
                  Option.bind (f_X12_thrown 122 r66.2) (fun r67 =>
                    if r67.1 = r65.1 then
                      if ¬ r65.1 = (0 : Int32) then
                        rec (x4 + (5 : Int32)) r67.2
                      else
                        if (KH 161).1 = 12 ∧ eix (0 : Int32) (KH 161).2 = true then
                          if (lg_cmp (r67.2.2 161 (0 : Int32).toNatClampNeg) r66.1.toInt64) = (0 : Int32) then
                            rec (x4 + (5 : Int32)) r67.2
                          else
                            if eB (0 : Int32) = true then some ((0 : Int32), r67.2) else none
                        else none
                    else
                      if eB (0 : Int32) = true then some ((0 : Int32), r67.2) else none
                    )
                else none
                )
            else none
          else none
        else none
        )
    else none
  else none

set_option maxHeartbeats 40000000 in
set_option maxRecDepth 20000 in
theorem s_law_22 (N : Nat) (xs : Nat → Int32) (rec : Int32 → eMem → Option (Int32 × eMem)) (C Z : Nat) (ih : ∀ (x4 : Int32) (σ : eMem) (c z : Nat), c ≤ C → z ≤ Z → Snd false (some (N, xs)) 23 m_L_law (rec x4 σ) (cN iI) (23, [(4, .inl (x4)), (3, .inr (.inr (161))), (2, .inr (.inr (122))), (1, .inr (.inr (2))), (0, .inr (.inr (1)))], [], hp σ, c, z)) (x4 : Int32) (σ : eMem) (c z : Nat) (hc : c + 10 ≤ C) (hz : z + 100 ≤ Z) (hC : C ≤ 601024) (hZ : Z ≤ 7293034) : Snd false (some (N, xs)) 23 m_L_law (f_law_22 N xs rec x4 σ) (cN iI) (1456, [(4, .inl (x4)), (3, .inr (.inr (161))), (2, .inr (.inr (122))), (1, .inr (.inr (2))), (0, .inr (.inr (1)))], [], hp σ, c, z) := by
  unfold f_law_22
  refine T_go (S' := (1462, [(4, .inl (x4)), (3, .inr (.inr (161))), (2, .inr (.inr (122))), (1, .inr (.inr (2))), (0, .inr (.inr (1)))], [.inl ((x4 + (1 : Int32))), .inr (.inr (1)), .inr (.inr (2))], hp σ, c, z)) 5 rfl ?_
  refine TL_iald rfl (fun _ => ?_)
  refine T_go (S' := (1468, [(4, .inl (x4)), (3, .inr (.inr (161))), (2, .inr (.inr (122))), (1, .inr (.inr (2))), (0, .inr (.inr (1)))], [.inl ((x4 + (2 : Int32))), .inr (.inr (1)), .inl ((xs (x4 + (1 : Int32)).toNatClampNeg)), .inr (.inr (2))], hp σ, c, z)) 4 rfl ?_
  refine TL_iald rfl (fun _ => ?_)
  refine T_go (S' := (1470, [(4, .inl (x4)), (3, .inr (.inr (161))), (2, .inr (.inr (122))), (1, .inr (.inr (2))), (0, .inr (.inr (1)))], [.inr (.inr (161)), .inl ((xs (x4 + (2 : Int32)).toNatClampNeg)), .inl ((xs (x4 + (1 : Int32)).toNatClampNeg)), .inr (.inr (2))], hp σ, c, z)) 1 rfl ?_
  refine TL_cs (i := iI) (as := [.inr (.inr (2)), .inl ((xs (x4 + (1 : Int32)).toNatClampNeg)), .inl ((xs (x4 + (2 : Int32)).toNatClampNeg)), .inr (.inr (161))]) (rest := []) (st := [.inr (.inr (161)), .inl ((xs (x4 + (2 : Int32)).toNatClampNeg)), .inl ((xs (x4 + (1 : Int32)).toNatClampNeg)), .inr (.inr (2))]) rfl (lb rfl) rfl rfl ⟨by omega, by omega, lb rfl, lb rfl⟩ (fun _ h => Ew_le (lb rfl) (s_L_outcome 2 (xs (x4 + (1 : Int32)).toNatClampNeg) (xs (x4 + (2 : Int32)).toNatClampNeg) 161 σ _ h)) (fun r65 => ?_)
  show Snd false (some (N, xs)) _ _ _ (cN iI) (1473, [(4, .inl (x4)), (3, .inr (.inr (161))), (2, .inr (.inr (122))), (1, .inr (.inr (2))), (0, .inr (.inr (1)))], [.inl (r65.1)], hp r65.2, c + 2, z + 12)
  refine T_go (S' := (1481, [(5, .inl (r65.1)), (4, .inl (x4)), (3, .inr (.inr (161))), (2, .inr (.inr (122))), (1, .inr (.inr (2))), (0, .inr (.inr (1)))], [.inl ((x4 + (1 : Int32))), .inr (.inr (1)), .inr (.inr (122))], hp r65.2, c + 2, z + 12)) 6 rfl ?_
  refine TL_iald rfl (fun _ => ?_)
  refine T_go (S' := (1487, [(5, .inl (r65.1)), (4, .inl (x4)), (3, .inr (.inr (161))), (2, .inr (.inr (122))), (1, .inr (.inr (2))), (0, .inr (.inr (1)))], [.inl ((x4 + (2 : Int32))), .inr (.inr (1)), .inl ((xs (x4 + (1 : Int32)).toNatClampNeg)), .inr (.inr (122))], hp r65.2, c + 2, z + 12)) 4 rfl ?_
  refine TL_iald rfl (fun _ => ?_)
  refine TL_cv (i := iI) (as := [.inr (.inr (122)), .inl ((xs (x4 + (1 : Int32)).toNatClampNeg)), .inl ((xs (x4 + (2 : Int32)).toNatClampNeg))]) (rest := []) (st := [.inl ((xs (x4 + (2 : Int32)).toNatClampNeg)), .inl ((xs (x4 + (1 : Int32)).toNatClampNeg)), .inr (.inr (122))]) rfl rfl rfl ⟨by omega, by omega, lb rfl, lb rfl⟩ (fun _ h => Ew_le (lb rfl) (s_X12_outcome 122 (xs (x4 + (1 : Int32)).toNatClampNeg) (xs (x4 + (2 : Int32)).toNatClampNeg) r65.2 _ h)) (fun _ r66 => ?_)
  show Snd false (some (N, xs)) _ _ _ (cN iI) (1491, [(5, .inl (r65.1)), (4, .inl (x4)), (3, .inr (.inr (161))), (2, .inr (.inr (122))), (1, .inr (.inr (2))), (0, .inr (.inr (1)))], [.inl (r66.1)], hp r66.2, c + 2 + 0, z + 12 + 0)
  refine T_go (S' := (1494, [(6, .inl (r66.1)), (5, .inl (r65.1)), (4, .inl (x4)), (3, .inr (.inr (161))), (2, .inr (.inr (122))), (1, .inr (.inr (2))), (0, .inr (.inr (1)))], [.inr (.inr (122))], hp r66.2, c + 2 + 0, z + 12 + 0)) 2 rfl ?_
  refine TL_cv (i := iI) (as := [.inr (.inr (122))]) (rest := []) (st := [.inr (.inr (122))]) rfl rfl rfl ⟨by omega, by omega, lb rfl, lb rfl⟩ (fun _ h => Ew_le (lb rfl) (s_X12_thrown 122 r66.2 _ h)) (fun _ r67 => ?_)
  show Snd false (some (N, xs)) _ _ _ (cN iI) (1497, [(6, .inl (r66.1)), (5, .inl (r65.1)), (4, .inl (x4)), (3, .inr (.inr (161))), (2, .inr (.inr (122))), (1, .inr (.inr (2))), (0, .inr (.inr (1)))], [.inl (r67.1)], hp r67.2, c + 2 + 0 + 0, z + 12 + 0 + 0)
  refine T_go (S' := (1499, [(6, .inl (r66.1)), (5, .inl (r65.1)), (4, .inl (x4)), (3, .inr (.inr (161))), (2, .inr (.inr (122))), (1, .inr (.inr (2))), (0, .inr (.inr (1)))], [.inl (r65.1), .inl (r67.1)], hp r67.2, c + 2 + 0 + 0, z + 12 + 0 + 0)) 1 rfl ?_
  refine TL_icmp_eq 1504 rfl rfl (fun _ => ?_) (fun _ => ?_)
  · refine T_go (S' := (1506, [(6, .inl (r66.1)), (5, .inl (r65.1)), (4, .inl (x4)), (3, .inr (.inr (161))), (2, .inr (.inr (122))), (1, .inr (.inr (2))), (0, .inr (.inr (1)))], [.inl (r65.1)], hp r67.2, c + 2 + 0 + 0, z + 12 + 0 + 0)) 1 rfl ?_
    refine TL_if_ne 1521 rfl rfl (fun _ => ?_) (fun _ => ?_)
    · refine T_go (S' := (23, [(4, .inl ((x4 + (5 : Int32)))), (6, .inl (r66.1)), (5, .inl (r65.1)), (3, .inr (.inr (161))), (2, .inr (.inr (122))), (1, .inr (.inr (2))), (0, .inr (.inr (1)))], [], hp r67.2, c + 2 + 0 + 0, z + 12 + 0 + 0)) 3 rfl ?_
      refine T_loc (ls' := [(4, .inl ((x4 + (5 : Int32)))), (3, .inr (.inr (161))), (2, .inr (.inr (122))), (1, .inr (.inr (2))), (0, .inr (.inr (1)))]) [0, 3, 4, 5, 6] rfl ?_
      exact ih (x4 + (5 : Int32)) r67.2 (c + 2 + 0 + 0) (z + 12 + 0 + 0) (by omega) (by omega)
    · refine T_go (S' := (1511, [(6, .inl (r66.1)), (5, .inl (r65.1)), (4, .inl (x4)), (3, .inr (.inr (161))), (2, .inr (.inr (122))), (1, .inr (.inr (2))), (0, .inr (.inr (1)))], [.inl ((0 : Int32)), .inr (.inr (161))], hp r67.2, c + 2 + 0 + 0, z + 12 + 0 + 0)) 2 rfl ?_
      refine TL_lald rfl (fun _ => ?_)
      refine T_go (S' := (1516, [(6, .inl (r66.1)), (5, .inl (r65.1)), (4, .inl (x4)), (3, .inr (.inr (161))), (2, .inr (.inr (122))), (1, .inr (.inr (2))), (0, .inr (.inr (1)))], [.inl ((lg_cmp (r67.2.2 161 (0 : Int32).toNatClampNeg) r66.1.toInt64))], hp r67.2, c + 2 + 0 + 0, z + 12 + 0 + 0)) 3 rfl ?_
      refine TL_if_eq 1521 rfl rfl (fun _ => ?_) (fun _ => ?_)
      · refine T_go (S' := (23, [(4, .inl ((x4 + (5 : Int32)))), (6, .inl (r66.1)), (5, .inl (r65.1)), (3, .inr (.inr (161))), (2, .inr (.inr (122))), (1, .inr (.inr (2))), (0, .inr (.inr (1)))], [], hp r67.2, c + 2 + 0 + 0, z + 12 + 0 + 0)) 3 rfl ?_
        refine T_loc (ls' := [(4, .inl ((x4 + (5 : Int32)))), (3, .inr (.inr (161))), (2, .inr (.inr (122))), (1, .inr (.inr (2))), (0, .inr (.inr (1)))]) [0, 3, 4, 5, 6] rfl ?_
        exact ih (x4 + (5 : Int32)) r67.2 (c + 2 + 0 + 0) (z + 12 + 0 + 0) (by omega) (by omega)
      · refine T_go (S' := (1520, [(6, .inl (r66.1)), (5, .inl (r65.1)), (4, .inl (x4)), (3, .inr (.inr (161))), (2, .inr (.inr (122))), (1, .inr (.inr (2))), (0, .inr (.inr (1)))], [.inl ((0 : Int32))], hp r67.2, c + 2 + 0 + 0, z + 12 + 0 + 0)) 1 rfl ?_
        exact T_chkr rfl
  · refine T_go (S' := (1503, [(6, .inl (r66.1)), (5, .inl (r65.1)), (4, .inl (x4)), (3, .inr (.inr (161))), (2, .inr (.inr (122))), (1, .inr (.inr (2))), (0, .inr (.inr (1)))], [.inl ((0 : Int32))], hp r67.2, c + 2 + 0 + 0, z + 12 + 0 + 0)) 1 rfl ?_
    exact T_chkr rfl

set_option maxRecDepth 20000 in
def f_law_23 (N : Nat) (xs : Nat → Int32) (rec : Int32 → eMem → Option (Int32 × eMem)) (x4 : Int32) (σ : eMem) : Option (Int32 × eMem) :=
  if eix (x4 + (1 : Int32)) N = true then
    Option.bind (f_L_outcomesAnew 2 (xs (x4 + (1 : Int32)).toNatClampNeg) 161 σ) (fun r68 =>
      if eix (x4 + (1 : Int32)) N = true then
        if (KH 122).1 = 10 then
          Option.bind (f_X12_outcomesAnew 122 (xs (x4 + (1 : Int32)).toNatClampNeg) r68.2) (fun r69 =>
            if (KH 122).1 = 10 then
              Option.bind (f_X12_thrown 122 r69.2) (fun r70 =>
                if r70.1 = r68.1 then
                  if ¬ r68.1 = (0 : Int32) then
                    rec (x4 + (5 : Int32)) r70.2
                  else
                    if (KH 161).1 = 12 ∧ eix (0 : Int32) (KH 161).2 = true then
                      if (lg_cmp (r70.2.2 161 (0 : Int32).toNatClampNeg) r69.1.toInt64) = (0 : Int32) then
                        rec (x4 + (5 : Int32)) r70.2
                      else
                        if eB (0 : Int32) = true then some ((0 : Int32), r70.2) else none
                    else none
                else
                  if eB (0 : Int32) = true then some ((0 : Int32), r70.2) else none
                )
            else none
            )
        else none
      else none
      )
  else none

set_option maxHeartbeats 40000000 in
set_option maxRecDepth 20000 in
theorem s_law_23 (N : Nat) (xs : Nat → Int32) (rec : Int32 → eMem → Option (Int32 × eMem)) (C Z : Nat) (ih : ∀ (x4 : Int32) (σ : eMem) (c z : Nat), c ≤ C → z ≤ Z → Snd false (some (N, xs)) 23 m_L_law (rec x4 σ) (cN iI) (23, [(4, .inl (x4)), (3, .inr (.inr (161))), (2, .inr (.inr (122))), (1, .inr (.inr (2))), (0, .inr (.inr (1)))], [], hp σ, c, z)) (x4 : Int32) (σ : eMem) (c z : Nat) (hc : c + 10 ≤ C) (hz : z + 100 ≤ Z) (hC : C ≤ 601024) (hZ : Z ≤ 7293034) : Snd false (some (N, xs)) 23 m_L_law (f_law_23 N xs rec x4 σ) (cN iI) (1524, [(4, .inl (x4)), (3, .inr (.inr (161))), (2, .inr (.inr (122))), (1, .inr (.inr (2))), (0, .inr (.inr (1)))], [], hp σ, c, z) := by
  unfold f_law_23
  refine T_go (S' := (1530, [(4, .inl (x4)), (3, .inr (.inr (161))), (2, .inr (.inr (122))), (1, .inr (.inr (2))), (0, .inr (.inr (1)))], [.inl ((x4 + (1 : Int32))), .inr (.inr (1)), .inr (.inr (2))], hp σ, c, z)) 5 rfl ?_
  refine TL_iald rfl (fun _ => ?_)
  refine T_go (S' := (1532, [(4, .inl (x4)), (3, .inr (.inr (161))), (2, .inr (.inr (122))), (1, .inr (.inr (2))), (0, .inr (.inr (1)))], [.inr (.inr (161)), .inl ((xs (x4 + (1 : Int32)).toNatClampNeg)), .inr (.inr (2))], hp σ, c, z)) 1 rfl ?_
  refine TL_cs (i := iI) (as := [.inr (.inr (2)), .inl ((xs (x4 + (1 : Int32)).toNatClampNeg)), .inr (.inr (161))]) (rest := []) (st := [.inr (.inr (161)), .inl ((xs (x4 + (1 : Int32)).toNatClampNeg)), .inr (.inr (2))]) rfl (lb rfl) rfl rfl ⟨by omega, by omega, lb rfl, lb rfl⟩ (fun _ h => Ew_le (lb rfl) (s_L_outcomesAnew 2 (xs (x4 + (1 : Int32)).toNatClampNeg) 161 σ _ h)) (fun r68 => ?_)
  show Snd false (some (N, xs)) _ _ _ (cN iI) (1535, [(4, .inl (x4)), (3, .inr (.inr (161))), (2, .inr (.inr (122))), (1, .inr (.inr (2))), (0, .inr (.inr (1)))], [.inl (r68.1)], hp r68.2, c + 1, z + 6)
  refine T_go (S' := (1543, [(5, .inl (r68.1)), (4, .inl (x4)), (3, .inr (.inr (161))), (2, .inr (.inr (122))), (1, .inr (.inr (2))), (0, .inr (.inr (1)))], [.inl ((x4 + (1 : Int32))), .inr (.inr (1)), .inr (.inr (122))], hp r68.2, c + 1, z + 6)) 6 rfl ?_
  refine TL_iald rfl (fun _ => ?_)
  refine TL_cv (i := iI) (as := [.inr (.inr (122)), .inl ((xs (x4 + (1 : Int32)).toNatClampNeg))]) (rest := []) (st := [.inl ((xs (x4 + (1 : Int32)).toNatClampNeg)), .inr (.inr (122))]) rfl rfl rfl ⟨by omega, by omega, lb rfl, lb rfl⟩ (fun _ h => Ew_le (lb rfl) (s_X12_outcomesAnew 122 (xs (x4 + (1 : Int32)).toNatClampNeg) r68.2 _ h)) (fun _ r69 => ?_)
  show Snd false (some (N, xs)) _ _ _ (cN iI) (1547, [(5, .inl (r68.1)), (4, .inl (x4)), (3, .inr (.inr (161))), (2, .inr (.inr (122))), (1, .inr (.inr (2))), (0, .inr (.inr (1)))], [.inl (r69.1)], hp r69.2, c + 1 + 0, z + 6 + 0)
  refine T_go (S' := (1550, [(6, .inl (r69.1)), (5, .inl (r68.1)), (4, .inl (x4)), (3, .inr (.inr (161))), (2, .inr (.inr (122))), (1, .inr (.inr (2))), (0, .inr (.inr (1)))], [.inr (.inr (122))], hp r69.2, c + 1 + 0, z + 6 + 0)) 2 rfl ?_
  refine TL_cv (i := iI) (as := [.inr (.inr (122))]) (rest := []) (st := [.inr (.inr (122))]) rfl rfl rfl ⟨by omega, by omega, lb rfl, lb rfl⟩ (fun _ h => Ew_le (lb rfl) (s_X12_thrown 122 r69.2 _ h)) (fun _ r70 => ?_)
  show Snd false (some (N, xs)) _ _ _ (cN iI) (1553, [(6, .inl (r69.1)), (5, .inl (r68.1)), (4, .inl (x4)), (3, .inr (.inr (161))), (2, .inr (.inr (122))), (1, .inr (.inr (2))), (0, .inr (.inr (1)))], [.inl (r70.1)], hp r70.2, c + 1 + 0 + 0, z + 6 + 0 + 0)
  refine T_go (S' := (1555, [(6, .inl (r69.1)), (5, .inl (r68.1)), (4, .inl (x4)), (3, .inr (.inr (161))), (2, .inr (.inr (122))), (1, .inr (.inr (2))), (0, .inr (.inr (1)))], [.inl (r68.1), .inl (r70.1)], hp r70.2, c + 1 + 0 + 0, z + 6 + 0 + 0)) 1 rfl ?_
  refine TL_icmp_eq 1560 rfl rfl (fun _ => ?_) (fun _ => ?_)
  · refine T_go (S' := (1562, [(6, .inl (r69.1)), (5, .inl (r68.1)), (4, .inl (x4)), (3, .inr (.inr (161))), (2, .inr (.inr (122))), (1, .inr (.inr (2))), (0, .inr (.inr (1)))], [.inl (r68.1)], hp r70.2, c + 1 + 0 + 0, z + 6 + 0 + 0)) 1 rfl ?_
    refine TL_if_ne 1577 rfl rfl (fun _ => ?_) (fun _ => ?_)
    · refine T_go (S' := (23, [(4, .inl ((x4 + (5 : Int32)))), (6, .inl (r69.1)), (5, .inl (r68.1)), (3, .inr (.inr (161))), (2, .inr (.inr (122))), (1, .inr (.inr (2))), (0, .inr (.inr (1)))], [], hp r70.2, c + 1 + 0 + 0, z + 6 + 0 + 0)) 3 rfl ?_
      refine T_loc (ls' := [(4, .inl ((x4 + (5 : Int32)))), (3, .inr (.inr (161))), (2, .inr (.inr (122))), (1, .inr (.inr (2))), (0, .inr (.inr (1)))]) [0, 3, 4, 5, 6] rfl ?_
      exact ih (x4 + (5 : Int32)) r70.2 (c + 1 + 0 + 0) (z + 6 + 0 + 0) (by omega) (by omega)
    · refine T_go (S' := (1567, [(6, .inl (r69.1)), (5, .inl (r68.1)), (4, .inl (x4)), (3, .inr (.inr (161))), (2, .inr (.inr (122))), (1, .inr (.inr (2))), (0, .inr (.inr (1)))], [.inl ((0 : Int32)), .inr (.inr (161))], hp r70.2, c + 1 + 0 + 0, z + 6 + 0 + 0)) 2 rfl ?_
      refine TL_lald rfl (fun _ => ?_)
      refine T_go (S' := (1572, [(6, .inl (r69.1)), (5, .inl (r68.1)), (4, .inl (x4)), (3, .inr (.inr (161))), (2, .inr (.inr (122))), (1, .inr (.inr (2))), (0, .inr (.inr (1)))], [.inl ((lg_cmp (r70.2.2 161 (0 : Int32).toNatClampNeg) r69.1.toInt64))], hp r70.2, c + 1 + 0 + 0, z + 6 + 0 + 0)) 3 rfl ?_
      refine TL_if_eq 1577 rfl rfl (fun _ => ?_) (fun _ => ?_)
      · refine T_go (S' := (23, [(4, .inl ((x4 + (5 : Int32)))), (6, .inl (r69.1)), (5, .inl (r68.1)), (3, .inr (.inr (161))), (2, .inr (.inr (122))), (1, .inr (.inr (2))), (0, .inr (.inr (1)))], [], hp r70.2, c + 1 + 0 + 0, z + 6 + 0 + 0)) 3 rfl ?_
        refine T_loc (ls' := [(4, .inl ((x4 + (5 : Int32)))), (3, .inr (.inr (161))), (2, .inr (.inr (122))), (1, .inr (.inr (2))), (0, .inr (.inr (1)))]) [0, 3, 4, 5, 6] rfl ?_
        exact ih (x4 + (5 : Int32)) r70.2 (c + 1 + 0 + 0) (z + 6 + 0 + 0) (by omega) (by omega)
      · refine T_go (S' := (1576, [(6, .inl (r69.1)), (5, .inl (r68.1)), (4, .inl (x4)), (3, .inr (.inr (161))), (2, .inr (.inr (122))), (1, .inr (.inr (2))), (0, .inr (.inr (1)))], [.inl ((0 : Int32))], hp r70.2, c + 1 + 0 + 0, z + 6 + 0 + 0)) 1 rfl ?_
        exact T_chkr rfl
  · refine T_go (S' := (1559, [(6, .inl (r69.1)), (5, .inl (r68.1)), (4, .inl (x4)), (3, .inr (.inr (161))), (2, .inr (.inr (122))), (1, .inr (.inr (2))), (0, .inr (.inr (1)))], [.inl ((0 : Int32))], hp r70.2, c + 1 + 0 + 0, z + 6 + 0 + 0)) 1 rfl ?_
    exact T_chkr rfl

set_option maxRecDepth 20000 in
def f_law_24 (N : Nat) (xs : Nat → Int32) (rec : Int32 → eMem → Option (Int32 × eMem)) (x4 : Int32) (σ : eMem) : Option (Int32 × eMem) :=
  if (KH 2).1 = 9 then
    Option.bind (f_X11_areAlike 2 σ) (fun r71 =>
      if (KH 122).1 = 10 then
        Option.bind (f_X12_areAlike 122 r71.2) (fun r72 =>
          if r71.1 = r72.1 then
            rec (x4 + (5 : Int32)) r72.2
          else
            if eB (0 : Int32) = true then some ((0 : Int32), r72.2) else none
          )
      else none
      )
  else none

set_option maxHeartbeats 40000000 in
set_option maxRecDepth 20000 in
theorem s_law_24 (N : Nat) (xs : Nat → Int32) (rec : Int32 → eMem → Option (Int32 × eMem)) (C Z : Nat) (ih : ∀ (x4 : Int32) (σ : eMem) (c z : Nat), c ≤ C → z ≤ Z → Snd false (some (N, xs)) 23 m_L_law (rec x4 σ) (cN iI) (23, [(4, .inl (x4)), (3, .inr (.inr (161))), (2, .inr (.inr (122))), (1, .inr (.inr (2))), (0, .inr (.inr (1)))], [], hp σ, c, z)) (x4 : Int32) (σ : eMem) (c z : Nat) (hc : c + 10 ≤ C) (hz : z + 100 ≤ Z) (hC : C ≤ 601024) (hZ : Z ≤ 7293034) : Snd false (some (N, xs)) 23 m_L_law (f_law_24 N xs rec x4 σ) (cN iI) (1580, [(4, .inl (x4)), (3, .inr (.inr (161))), (2, .inr (.inr (122))), (1, .inr (.inr (2))), (0, .inr (.inr (1)))], [], hp σ, c, z) := by
  unfold f_law_24
  refine T_go (S' := (1581, [(4, .inl (x4)), (3, .inr (.inr (161))), (2, .inr (.inr (122))), (1, .inr (.inr (2))), (0, .inr (.inr (1)))], [.inr (.inr (2))], hp σ, c, z)) 1 rfl ?_
  refine TL_cv (i := iI) (as := [.inr (.inr (2))]) (rest := []) (st := [.inr (.inr (2))]) rfl rfl rfl ⟨by omega, by omega, lb rfl, lb rfl⟩ (fun _ h => Ew_le (lb rfl) (s_X11_areAlike 2 σ _ h)) (fun _ r71 => ?_)
  show Snd false (some (N, xs)) _ _ _ (cN iI) (1584, [(4, .inl (x4)), (3, .inr (.inr (161))), (2, .inr (.inr (122))), (1, .inr (.inr (2))), (0, .inr (.inr (1)))], [.inl (r71.1)], hp r71.2, c + 0, z + 0)
  refine T_go (S' := (1585, [(4, .inl (x4)), (3, .inr (.inr (161))), (2, .inr (.inr (122))), (1, .inr (.inr (2))), (0, .inr (.inr (1)))], [.inr (.inr (122)), .inl (r71.1)], hp r71.2, c + 0, z + 0)) 1 rfl ?_
  refine TL_cv (i := iI) (as := [.inr (.inr (122))]) (rest := [.inl (r71.1)]) (st := [.inr (.inr (122)), .inl (r71.1)]) rfl rfl rfl ⟨by omega, by omega, lb rfl, lb rfl⟩ (fun _ h => Ew_le (lb rfl) (s_X12_areAlike 122 r71.2 _ h)) (fun _ r72 => ?_)
  show Snd false (some (N, xs)) _ _ _ (cN iI) (1588, [(4, .inl (x4)), (3, .inr (.inr (161))), (2, .inr (.inr (122))), (1, .inr (.inr (2))), (0, .inr (.inr (1)))], [.inl (r72.1), .inl (r71.1)], hp r72.2, c + 0 + 0, z + 0 + 0)
  refine TL_icmp_eq 1593 rfl rfl (fun _ => ?_) (fun _ => ?_)
  · refine T_go (S' := (23, [(4, .inl ((x4 + (5 : Int32)))), (3, .inr (.inr (161))), (2, .inr (.inr (122))), (1, .inr (.inr (2))), (0, .inr (.inr (1)))], [], hp r72.2, c + 0 + 0, z + 0 + 0)) 2 rfl ?_
    refine T_loc (ls' := [(4, .inl ((x4 + (5 : Int32)))), (3, .inr (.inr (161))), (2, .inr (.inr (122))), (1, .inr (.inr (2))), (0, .inr (.inr (1)))]) [0, 1, 2, 3, 4] rfl ?_
    exact ih (x4 + (5 : Int32)) r72.2 (c + 0 + 0) (z + 0 + 0) (by omega) (by omega)
  · refine T_go (S' := (1592, [(4, .inl (x4)), (3, .inr (.inr (161))), (2, .inr (.inr (122))), (1, .inr (.inr (2))), (0, .inr (.inr (1)))], [.inl ((0 : Int32))], hp r72.2, c + 0 + 0, z + 0 + 0)) 1 rfl ?_
    exact T_chkr rfl

set_option maxRecDepth 20000 in
def f_law (N : Nat) (xs : Nat → Int32) : Nat → Int32 → eMem → Option (Int32 × eMem)
  | 0, _, _ => none
  | n + 1, x4, σ =>
    if ((Int32.ofNat N) - (5 : Int32)) < x4 then
      if eB (1 : Int32) = true then some ((1 : Int32), σ) else none
    else
      if eix x4 N = true then
        if ((xs x4.toNatClampNeg) &&& (31 : Int32)) = (0 : Int32) then
          f_law_0 N xs (f_law N xs n) x4 σ
        else
          if ((xs x4.toNatClampNeg) &&& (31 : Int32)) = (1 : Int32) then
            f_law_1 N xs (f_law N xs n) x4 σ
          else
            if ((xs x4.toNatClampNeg) &&& (31 : Int32)) = (2 : Int32) then
              f_law_2 N xs (f_law N xs n) x4 σ
            else
              if ((xs x4.toNatClampNeg) &&& (31 : Int32)) = (3 : Int32) then
                f_law_3 N xs (f_law N xs n) x4 σ
              else
                if ((xs x4.toNatClampNeg) &&& (31 : Int32)) = (4 : Int32) then
                  f_law_4 N xs (f_law N xs n) x4 σ
                else
                  if ((xs x4.toNatClampNeg) &&& (31 : Int32)) = (5 : Int32) then
                    f_law_5 N xs (f_law N xs n) x4 σ
                  else
                    if ((xs x4.toNatClampNeg) &&& (31 : Int32)) = (6 : Int32) then
                      f_law_6 N xs (f_law N xs n) x4 σ
                    else
                      if ((xs x4.toNatClampNeg) &&& (31 : Int32)) = (7 : Int32) then
                        f_law_7 N xs (f_law N xs n) x4 σ
                      else
                        if ((xs x4.toNatClampNeg) &&& (31 : Int32)) = (8 : Int32) then
                          f_law_8 N xs (f_law N xs n) x4 σ
                        else
                          if ((xs x4.toNatClampNeg) &&& (31 : Int32)) = (9 : Int32) then
                            f_law_9 N xs (f_law N xs n) x4 σ
                          else
                            if ((xs x4.toNatClampNeg) &&& (31 : Int32)) = (10 : Int32) then
                              f_law_10 N xs (f_law N xs n) x4 σ
                            else
                              if ((xs x4.toNatClampNeg) &&& (31 : Int32)) = (11 : Int32) then
                                f_law_11 N xs (f_law N xs n) x4 σ
                              else
                                if ((xs x4.toNatClampNeg) &&& (31 : Int32)) = (12 : Int32) then
                                  f_law_12 N xs (f_law N xs n) x4 σ
                                else
                                  if ((xs x4.toNatClampNeg) &&& (31 : Int32)) = (13 : Int32) then
                                    f_law_13 N xs (f_law N xs n) x4 σ
                                  else
                                    if ((xs x4.toNatClampNeg) &&& (31 : Int32)) = (14 : Int32) then
                                      f_law_14 N xs (f_law N xs n) x4 σ
                                    else
                                      if ((xs x4.toNatClampNeg) &&& (31 : Int32)) = (15 : Int32) then
                                        f_law_15 N xs (f_law N xs n) x4 σ
                                      else
                                        if ((xs x4.toNatClampNeg) &&& (31 : Int32)) = (16 : Int32) then
                                          f_law_16 N xs (f_law N xs n) x4 σ
                                        else
                                          if ((xs x4.toNatClampNeg) &&& (31 : Int32)) = (17 : Int32) then
                                            f_law_17 N xs (f_law N xs n) x4 σ
                                          else
                                            if ((xs x4.toNatClampNeg) &&& (31 : Int32)) = (18 : Int32) then
                                              f_law_18 N xs (f_law N xs n) x4 σ
                                            else
                                              if ((xs x4.toNatClampNeg) &&& (31 : Int32)) = (19 : Int32) then
                                                f_law_19 N xs (f_law N xs n) x4 σ
                                              else
                                                if ((xs x4.toNatClampNeg) &&& (31 : Int32)) = (20 : Int32) then
                                                  f_law_20 N xs (f_law N xs n) x4 σ
                                                else
                                                  if ((xs x4.toNatClampNeg) &&& (31 : Int32)) = (21 : Int32) then
                                                    f_law_21 N xs (f_law N xs n) x4 σ
                                                  else
                                                    if ((xs x4.toNatClampNeg) &&& (31 : Int32)) = (22 : Int32) then
                                                      f_law_22 N xs (f_law N xs n) x4 σ
                                                    else
                                                      if ((xs x4.toNatClampNeg) &&& (31 : Int32)) = (23 : Int32) then
                                                        f_law_23 N xs (f_law N xs n) x4 σ
                                                      else
                                                        if ((xs x4.toNatClampNeg) &&& (31 : Int32)) = (24 : Int32) then
                                                          f_law_24 N xs (f_law N xs n) x4 σ
                                                        else
                                                          f_law N xs n (x4 + (5 : Int32)) σ
      else none

set_option maxHeartbeats 40000000 in
set_option maxRecDepth 20000 in
theorem s_law (N : Nat) (xs : Nat → Int32) : ∀ (n : Nat) (x4 : Int32) (σ : eMem) (c z : Nat), c + 10 * n ≤ 601024 → z + 100 * n ≤ 7293034 → Snd false (some (N, xs)) 23 m_L_law (f_law N xs n x4 σ) (cN iI) (23, [(4, .inl (x4)), (3, .inr (.inr (161))), (2, .inr (.inr (122))), (1, .inr (.inr (2))), (0, .inr (.inr (1)))], [], hp σ, c, z) := by
  intro n
  induction n with
  | zero => exact fun _ _ _ _ _ _ => T_none
  | succ n ih =>
    intro x4 σ c z hc hz
    unfold f_law
    refine T_go (S' := (29, [(4, .inl (x4)), (3, .inr (.inr (161))), (2, .inr (.inr (122))), (1, .inr (.inr (2))), (0, .inr (.inr (1)))], [.inl (((Int32.ofNat N) - (5 : Int32))), .inl (x4)], hp σ, c, z)) 5 rfl ?_
    refine TL_icmp_gt 1599 rfl rfl (fun _ => ?_) (fun _ => ?_)
    · refine T_go (S' := (1600, [(4, .inl (x4)), (3, .inr (.inr (161))), (2, .inr (.inr (122))), (1, .inr (.inr (2))), (0, .inr (.inr (1)))], [.inl ((1 : Int32))], hp σ, c, z)) 1 rfl ?_
      exact T_chkr rfl
    · refine T_go (S' := (35, [(4, .inl (x4)), (3, .inr (.inr (161))), (2, .inr (.inr (122))), (1, .inr (.inr (2))), (0, .inr (.inr (1)))], [.inl (x4), .inr (.inr (1))], hp σ, c, z)) 2 rfl ?_
      refine TL_iald rfl (fun _ => ?_)
      refine T_go (S' := (39, [(4, .inl (x4)), (3, .inr (.inr (161))), (2, .inr (.inr (122))), (1, .inr (.inr (2))), (0, .inr (.inr (1)))], [.inl (((xs x4.toNatClampNeg) &&& (31 : Int32)))], hp σ, c, z)) 2 rfl ?_
      refine TL_sw (0 : Int32) rfl (fun _ => ?_) (fun q0 => ?_)
      · exact s_law_0 N xs (f_law N xs n) (601024 - 10 * n) (7293034 - 100 * n) (fun x4 σ c z h1 h2 => ih x4 σ c z (by omega) (by omega)) x4 σ c z (by omega) (by omega) (by omega) (by omega)
      refine TL_sw (1 : Int32) rfl (fun _ => ?_) (fun q1 => ?_)
      · exact s_law_1 N xs (f_law N xs n) (601024 - 10 * n) (7293034 - 100 * n) (fun x4 σ c z h1 h2 => ih x4 σ c z (by omega) (by omega)) x4 σ c z (by omega) (by omega) (by omega) (by omega)
      refine TL_sw (2 : Int32) rfl (fun _ => ?_) (fun q2 => ?_)
      · exact s_law_2 N xs (f_law N xs n) (601024 - 10 * n) (7293034 - 100 * n) (fun x4 σ c z h1 h2 => ih x4 σ c z (by omega) (by omega)) x4 σ c z (by omega) (by omega) (by omega) (by omega)
      refine TL_sw (3 : Int32) rfl (fun _ => ?_) (fun q3 => ?_)
      · exact s_law_3 N xs (f_law N xs n) (601024 - 10 * n) (7293034 - 100 * n) (fun x4 σ c z h1 h2 => ih x4 σ c z (by omega) (by omega)) x4 σ c z (by omega) (by omega) (by omega) (by omega)
      refine TL_sw (4 : Int32) rfl (fun _ => ?_) (fun q4 => ?_)
      · exact s_law_4 N xs (f_law N xs n) (601024 - 10 * n) (7293034 - 100 * n) (fun x4 σ c z h1 h2 => ih x4 σ c z (by omega) (by omega)) x4 σ c z (by omega) (by omega) (by omega) (by omega)
      refine TL_sw (5 : Int32) rfl (fun _ => ?_) (fun q5 => ?_)
      · exact s_law_5 N xs (f_law N xs n) (601024 - 10 * n) (7293034 - 100 * n) (fun x4 σ c z h1 h2 => ih x4 σ c z (by omega) (by omega)) x4 σ c z (by omega) (by omega) (by omega) (by omega)
      refine TL_sw (6 : Int32) rfl (fun _ => ?_) (fun q6 => ?_)
      · exact s_law_6 N xs (f_law N xs n) (601024 - 10 * n) (7293034 - 100 * n) (fun x4 σ c z h1 h2 => ih x4 σ c z (by omega) (by omega)) x4 σ c z (by omega) (by omega) (by omega) (by omega)
      refine TL_sw (7 : Int32) rfl (fun _ => ?_) (fun q7 => ?_)
      · exact s_law_7 N xs (f_law N xs n) (601024 - 10 * n) (7293034 - 100 * n) (fun x4 σ c z h1 h2 => ih x4 σ c z (by omega) (by omega)) x4 σ c z (by omega) (by omega) (by omega) (by omega)
      refine TL_sw (8 : Int32) rfl (fun _ => ?_) (fun q8 => ?_)
      · exact s_law_8 N xs (f_law N xs n) (601024 - 10 * n) (7293034 - 100 * n) (fun x4 σ c z h1 h2 => ih x4 σ c z (by omega) (by omega)) x4 σ c z (by omega) (by omega) (by omega) (by omega)
      refine TL_sw (9 : Int32) rfl (fun _ => ?_) (fun q9 => ?_)
      · exact s_law_9 N xs (f_law N xs n) (601024 - 10 * n) (7293034 - 100 * n) (fun x4 σ c z h1 h2 => ih x4 σ c z (by omega) (by omega)) x4 σ c z (by omega) (by omega) (by omega) (by omega)
      refine TL_sw (10 : Int32) rfl (fun _ => ?_) (fun q10 => ?_)
      · exact s_law_10 N xs (f_law N xs n) (601024 - 10 * n) (7293034 - 100 * n) (fun x4 σ c z h1 h2 => ih x4 σ c z (by omega) (by omega)) x4 σ c z (by omega) (by omega) (by omega) (by omega)
      refine TL_sw (11 : Int32) rfl (fun _ => ?_) (fun q11 => ?_)
      · exact s_law_11 N xs (f_law N xs n) (601024 - 10 * n) (7293034 - 100 * n) (fun x4 σ c z h1 h2 => ih x4 σ c z (by omega) (by omega)) x4 σ c z (by omega) (by omega) (by omega) (by omega)
      refine TL_sw (12 : Int32) rfl (fun _ => ?_) (fun q12 => ?_)
      · exact s_law_12 N xs (f_law N xs n) (601024 - 10 * n) (7293034 - 100 * n) (fun x4 σ c z h1 h2 => ih x4 σ c z (by omega) (by omega)) x4 σ c z (by omega) (by omega) (by omega) (by omega)
      refine TL_sw (13 : Int32) rfl (fun _ => ?_) (fun q13 => ?_)
      · exact s_law_13 N xs (f_law N xs n) (601024 - 10 * n) (7293034 - 100 * n) (fun x4 σ c z h1 h2 => ih x4 σ c z (by omega) (by omega)) x4 σ c z (by omega) (by omega) (by omega) (by omega)
      refine TL_sw (14 : Int32) rfl (fun _ => ?_) (fun q14 => ?_)
      · exact s_law_14 N xs (f_law N xs n) (601024 - 10 * n) (7293034 - 100 * n) (fun x4 σ c z h1 h2 => ih x4 σ c z (by omega) (by omega)) x4 σ c z (by omega) (by omega) (by omega) (by omega)
      refine TL_sw (15 : Int32) rfl (fun _ => ?_) (fun q15 => ?_)
      · exact s_law_15 N xs (f_law N xs n) (601024 - 10 * n) (7293034 - 100 * n) (fun x4 σ c z h1 h2 => ih x4 σ c z (by omega) (by omega)) x4 σ c z (by omega) (by omega) (by omega) (by omega)
      refine TL_sw (16 : Int32) rfl (fun _ => ?_) (fun q16 => ?_)
      · exact s_law_16 N xs (f_law N xs n) (601024 - 10 * n) (7293034 - 100 * n) (fun x4 σ c z h1 h2 => ih x4 σ c z (by omega) (by omega)) x4 σ c z (by omega) (by omega) (by omega) (by omega)
      refine TL_sw (17 : Int32) rfl (fun _ => ?_) (fun q17 => ?_)
      · exact s_law_17 N xs (f_law N xs n) (601024 - 10 * n) (7293034 - 100 * n) (fun x4 σ c z h1 h2 => ih x4 σ c z (by omega) (by omega)) x4 σ c z (by omega) (by omega) (by omega) (by omega)
      refine TL_sw (18 : Int32) rfl (fun _ => ?_) (fun q18 => ?_)
      · exact s_law_18 N xs (f_law N xs n) (601024 - 10 * n) (7293034 - 100 * n) (fun x4 σ c z h1 h2 => ih x4 σ c z (by omega) (by omega)) x4 σ c z (by omega) (by omega) (by omega) (by omega)
      refine TL_sw (19 : Int32) rfl (fun _ => ?_) (fun q19 => ?_)
      · exact s_law_19 N xs (f_law N xs n) (601024 - 10 * n) (7293034 - 100 * n) (fun x4 σ c z h1 h2 => ih x4 σ c z (by omega) (by omega)) x4 σ c z (by omega) (by omega) (by omega) (by omega)
      refine TL_sw (20 : Int32) rfl (fun _ => ?_) (fun q20 => ?_)
      · exact s_law_20 N xs (f_law N xs n) (601024 - 10 * n) (7293034 - 100 * n) (fun x4 σ c z h1 h2 => ih x4 σ c z (by omega) (by omega)) x4 σ c z (by omega) (by omega) (by omega) (by omega)
      refine TL_sw (21 : Int32) rfl (fun _ => ?_) (fun q21 => ?_)
      · exact s_law_21 N xs (f_law N xs n) (601024 - 10 * n) (7293034 - 100 * n) (fun x4 σ c z h1 h2 => ih x4 σ c z (by omega) (by omega)) x4 σ c z (by omega) (by omega) (by omega) (by omega)
      refine TL_sw (22 : Int32) rfl (fun _ => ?_) (fun q22 => ?_)
      · exact s_law_22 N xs (f_law N xs n) (601024 - 10 * n) (7293034 - 100 * n) (fun x4 σ c z h1 h2 => ih x4 σ c z (by omega) (by omega)) x4 σ c z (by omega) (by omega) (by omega) (by omega)
      refine TL_sw (23 : Int32) rfl (fun _ => ?_) (fun q23 => ?_)
      · exact s_law_23 N xs (f_law N xs n) (601024 - 10 * n) (7293034 - 100 * n) (fun x4 σ c z h1 h2 => ih x4 σ c z (by omega) (by omega)) x4 σ c z (by omega) (by omega) (by omega) (by omega)
      refine TL_sw (24 : Int32) rfl (fun _ => ?_) (fun q24 => ?_)
      · exact s_law_24 N xs (f_law N xs n) (601024 - 10 * n) (7293034 - 100 * n) (fun x4 σ c z h1 h2 => ih x4 σ c z (by omega) (by omega)) x4 σ c z (by omega) (by omega) (by omega) (by omega)
      have hq : (((xs x4.toNatClampNeg) &&& (31 : Int32))).toInt < 0 ∨ 24 < (((xs x4.toNatClampNeg) &&& (31 : Int32))).toInt := by
        have g0 := e_i32 (k := 0) (x := ((xs x4.toNatClampNeg) &&& (31 : Int32))) q0 (by decide)
        have g1 := e_i32 (k := 1) (x := ((xs x4.toNatClampNeg) &&& (31 : Int32))) q1 (by decide)
        have g2 := e_i32 (k := 2) (x := ((xs x4.toNatClampNeg) &&& (31 : Int32))) q2 (by decide)
        have g3 := e_i32 (k := 3) (x := ((xs x4.toNatClampNeg) &&& (31 : Int32))) q3 (by decide)
        have g4 := e_i32 (k := 4) (x := ((xs x4.toNatClampNeg) &&& (31 : Int32))) q4 (by decide)
        have g5 := e_i32 (k := 5) (x := ((xs x4.toNatClampNeg) &&& (31 : Int32))) q5 (by decide)
        have g6 := e_i32 (k := 6) (x := ((xs x4.toNatClampNeg) &&& (31 : Int32))) q6 (by decide)
        have g7 := e_i32 (k := 7) (x := ((xs x4.toNatClampNeg) &&& (31 : Int32))) q7 (by decide)
        have g8 := e_i32 (k := 8) (x := ((xs x4.toNatClampNeg) &&& (31 : Int32))) q8 (by decide)
        have g9 := e_i32 (k := 9) (x := ((xs x4.toNatClampNeg) &&& (31 : Int32))) q9 (by decide)
        have g10 := e_i32 (k := 10) (x := ((xs x4.toNatClampNeg) &&& (31 : Int32))) q10 (by decide)
        have g11 := e_i32 (k := 11) (x := ((xs x4.toNatClampNeg) &&& (31 : Int32))) q11 (by decide)
        have g12 := e_i32 (k := 12) (x := ((xs x4.toNatClampNeg) &&& (31 : Int32))) q12 (by decide)
        have g13 := e_i32 (k := 13) (x := ((xs x4.toNatClampNeg) &&& (31 : Int32))) q13 (by decide)
        have g14 := e_i32 (k := 14) (x := ((xs x4.toNatClampNeg) &&& (31 : Int32))) q14 (by decide)
        have g15 := e_i32 (k := 15) (x := ((xs x4.toNatClampNeg) &&& (31 : Int32))) q15 (by decide)
        have g16 := e_i32 (k := 16) (x := ((xs x4.toNatClampNeg) &&& (31 : Int32))) q16 (by decide)
        have g17 := e_i32 (k := 17) (x := ((xs x4.toNatClampNeg) &&& (31 : Int32))) q17 (by decide)
        have g18 := e_i32 (k := 18) (x := ((xs x4.toNatClampNeg) &&& (31 : Int32))) q18 (by decide)
        have g19 := e_i32 (k := 19) (x := ((xs x4.toNatClampNeg) &&& (31 : Int32))) q19 (by decide)
        have g20 := e_i32 (k := 20) (x := ((xs x4.toNatClampNeg) &&& (31 : Int32))) q20 (by decide)
        have g21 := e_i32 (k := 21) (x := ((xs x4.toNatClampNeg) &&& (31 : Int32))) q21 (by decide)
        have g22 := e_i32 (k := 22) (x := ((xs x4.toNatClampNeg) &&& (31 : Int32))) q22 (by decide)
        have g23 := e_i32 (k := 23) (x := ((xs x4.toNatClampNeg) &&& (31 : Int32))) q23 (by decide)
        have g24 := e_i32 (k := 24) (x := ((xs x4.toNatClampNeg) &&& (31 : Int32))) q24 (by decide)
        omega
      refine TL_tso 1593 rfl hq rfl ?_
      refine T_go (S' := (23, [(4, .inl ((x4 + (5 : Int32)))), (3, .inr (.inr (161))), (2, .inr (.inr (122))), (1, .inr (.inr (2))), (0, .inr (.inr (1)))], [], hp σ, c, z)) 2 rfl ?_
      refine T_loc (ls' := [(4, .inl ((x4 + (5 : Int32)))), (3, .inr (.inr (161))), (2, .inr (.inr (122))), (1, .inr (.inr (2))), (0, .inr (.inr (1)))]) [0, 1, 2, 3, 4] rfl ?_
      exact ih (x4 + (5 : Int32)) σ (c) (z) (by omega) (by omega)

