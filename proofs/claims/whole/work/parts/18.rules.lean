/-! the rules, one an instruction -/
theorem lb {a b : Nat} (h : Nat.ble a b = true) : a ≤ b := Nat.le_of_ble_eq_true h
section ERI
variable {ex : Bool} {md : eM} {ρ τ : Type} {d pc : Nat} {ls : eL} {t : List eV} {σ : eMem} {c z : Nat} {X Y : Option ρ} {cv : ρ → eR} {oc maxL rt mc ms : Nat} {hs : List (Nat × Nat × Nat × Nat)} {cd : eC} {idx : Nat} {a1 a2 a3 a4 a5 a6 : Nat} {w : Nat × Nat × Nat × Nat × Nat × Nat}
theorem T_getI {r : Nat} (hel : elk cd pc = some (.getfield idx, a1, a2, 0, a4, a5, a6)) (H : (KH r).1 = a1 → Snd ex none d (oc, maxL, rt, mc, ms, hs, cd) X cv (pc + 3, ls, .inl (σ.1 r a2) :: t, hp σ, c, z)) : Snd ex none d (oc, maxL, rt, mc, ms, hs, cd) (if (KH r).1 = a1 then X else none) cv (pc, ls, .inr (.inr r) :: t, hp σ, c, z) := by
  refine T_chk (S1 := (pc + 3, ls, .inl (σ.1 r a2) :: t, hp σ, c, z)) ?_ H
  unfold stp
  dsimp only
  rw [hel]
  rfl
theorem T_getR {r : Nat} (hel : elk cd pc = some (.getfield idx, a1, a2, 1, a4, a5, a6)) (H : (KH r).1 = a1 → Snd ex none d (oc, maxL, rt, mc, ms, hs, cd) X cv (pc + 3, ls, .inr (.inr (RH r a2)) :: t, hp σ, c, z)) : Snd ex none d (oc, maxL, rt, mc, ms, hs, cd) (if (KH r).1 = a1 then X else none) cv (pc, ls, .inr (.inr r) :: t, hp σ, c, z) := by
  refine T_chk (S1 := (pc + 3, ls, .inr (.inr (RH r a2)) :: t, hp σ, c, z)) ?_ H
  unfold stp
  dsimp only
  rw [hel]
  rfl
theorem T_putI {r : Nat} {x : Int32} (hel : elk cd pc = some (.putfield idx, a1, a2, 0, a4, a5, a6)) (H : (KH r).1 = a1 → Snd ex none d (oc, maxL, rt, mc, ms, hs, cd) X cv (pc + 3, ls, t, hp (eup σ.1 r a2 x, σ.2), c, z)) : Snd ex none d (oc, maxL, rt, mc, ms, hs, cd) (if (KH r).1 = a1 then X else none) cv (pc, ls, .inl x :: .inr (.inr r) :: t, hp σ, c, z) := by
  refine T_chk (S1 := (pc + 3, ls, t, hp (eup σ.1 r a2 x, σ.2), c, z)) ?_ H
  unfold stp
  dsimp only
  rw [hel]
  rfl
theorem T_putZ {r : Nat} {x : Int32} (hel : elk cd pc = some (.putfield idx, a1, a2, 2, a4, a5, a6)) (H : (KH r).1 = a1 ∧ eB x = true → Snd ex none d (oc, maxL, rt, mc, ms, hs, cd) X cv (pc + 3, ls, t, hp (eup σ.1 r a2 x, σ.2), c, z)) : Snd ex none d (oc, maxL, rt, mc, ms, hs, cd) (if (KH r).1 = a1 ∧ eB x = true then X else none) cv (pc, ls, .inl x :: .inr (.inr r) :: t, hp σ, c, z) := by
  refine T_chk (S1 := (pc + 3, ls, t, hp (eup σ.1 r a2 x, σ.2), c, z)) ?_ H
  unfold stp
  dsimp only
  rw [hel]
  rfl
theorem T_bald {r : Nat} {i : Int32} (hel : elk cd pc = some (.baload, w)) (H : (KH r).1 = 13 ∧ eix i (KH r).2 = true → Snd ex none d (oc, maxL, rt, mc, ms, hs, cd) X cv (pc + 1, ls, .inl (σ.1 r i.toNatClampNeg) :: t, hp σ, c, z)) : Snd ex none d (oc, maxL, rt, mc, ms, hs, cd) (if (KH r).1 = 13 ∧ eix i (KH r).2 = true then X else none) cv (pc, ls, .inl i :: .inr (.inr r) :: t, hp σ, c, z) := by
  refine T_chk (S1 := (pc + 1, ls, .inl (σ.1 r i.toNatClampNeg) :: t, hp σ, c, z)) ?_ H
  unfold stp
  dsimp only
  rw [hel]
  rfl
theorem T_lald {r : Nat} {i : Int32} (hel : elk cd pc = some (.laload, w)) (H : (KH r).1 = 12 ∧ eix i (KH r).2 = true → Snd ex none d (oc, maxL, rt, mc, ms, hs, cd) X cv (pc + 1, ls, .inr (.inl (σ.2 r i.toNatClampNeg)) :: t, hp σ, c, z)) : Snd ex none d (oc, maxL, rt, mc, ms, hs, cd) (if (KH r).1 = 12 ∧ eix i (KH r).2 = true then X else none) cv (pc, ls, .inl i :: .inr (.inr r) :: t, hp σ, c, z) := by
  refine T_chk (S1 := (pc + 1, ls, .inr (.inl (σ.2 r i.toNatClampNeg)) :: t, hp σ, c, z)) ?_ H
  unfold stp
  dsimp only
  rw [hel]
  rfl
theorem T_aald {r : Nat} {i : Int32} (hel : elk cd pc = some (.aaload, a1, a2, a3, a4, a5, a6)) (H : (KH r).1 = a1 ∧ eix i (KH r).2 = true → Snd ex none d (oc, maxL, rt, mc, ms, hs, cd) X cv (pc + 1, ls, .inr (.inr (RH r i.toNatClampNeg)) :: t, hp σ, c, z)) : Snd ex none d (oc, maxL, rt, mc, ms, hs, cd) (if (KH r).1 = a1 ∧ eix i (KH r).2 = true then X else none) cv (pc, ls, .inl i :: .inr (.inr r) :: t, hp σ, c, z) := by
  refine T_chk (S1 := (pc + 1, ls, .inr (.inr (RH r i.toNatClampNeg)) :: t, hp σ, c, z)) ?_ H
  unfold stp
  dsimp only
  rw [hel]
  rfl
theorem T_iast {r : Nat} {i x : Int32} (hel : elk cd pc = some (.iastore, w)) (H : (KH r).1 = 11 ∧ eix i (KH r).2 = true → Snd ex none d (oc, maxL, rt, mc, ms, hs, cd) X cv (pc + 1, ls, t, hp (eup σ.1 r i.toNatClampNeg x, σ.2), c, z)) : Snd ex none d (oc, maxL, rt, mc, ms, hs, cd) (if (KH r).1 = 11 ∧ eix i (KH r).2 = true then X else none) cv (pc, ls, .inl x :: .inl i :: .inr (.inr r) :: t, hp σ, c, z) := by
  refine T_chk (S1 := (pc + 1, ls, t, hp (eup σ.1 r i.toNatClampNeg x, σ.2), c, z)) ?_ H
  unfold stp
  dsimp only
  rw [hel]
  rfl
theorem T_bast {r : Nat} {i x : Int32} (hel : elk cd pc = some (.bastore, w)) (H : (KH r).1 = 13 ∧ eix i (KH r).2 = true ∧ eB x = true → Snd ex none d (oc, maxL, rt, mc, ms, hs, cd) X cv (pc + 1, ls, t, hp (eup σ.1 r i.toNatClampNeg x, σ.2), c, z)) : Snd ex none d (oc, maxL, rt, mc, ms, hs, cd) (if (KH r).1 = 13 ∧ eix i (KH r).2 = true ∧ eB x = true then X else none) cv (pc, ls, .inl x :: .inl i :: .inr (.inr r) :: t, hp σ, c, z) := by
  refine T_chk (S1 := (pc + 1, ls, t, hp (eup σ.1 r i.toNatClampNeg x, σ.2), c, z)) ?_ H
  unfold stp
  dsimp only
  rw [hel]
  rfl
theorem T_last {r : Nat} {i : Int32} {x : Int64} (hel : elk cd pc = some (.lastore, w)) (H : (KH r).1 = 12 ∧ eix i (KH r).2 = true → Snd ex none d (oc, maxL, rt, mc, ms, hs, cd) X cv (pc + 1, ls, t, hp (σ.1, eup σ.2 r i.toNatClampNeg x), c, z)) : Snd ex none d (oc, maxL, rt, mc, ms, hs, cd) (if (KH r).1 = 12 ∧ eix i (KH r).2 = true then X else none) cv (pc, ls, .inr (.inl x) :: .inl i :: .inr (.inr r) :: t, hp σ, c, z) := by
  refine T_chk (S1 := (pc + 1, ls, t, hp (σ.1, eup σ.2 r i.toNatClampNeg x), c, z)) ?_ H
  unfold stp
  dsimp only
  rw [hel]
  rfl
theorem T_irem {x y : Int32} (hel : elk cd pc = some (.irem, w)) (H : ¬ y = 0 → Snd ex none d (oc, maxL, rt, mc, ms, hs, cd) X cv (pc + 1, ls, .inl (x - x / y * y) :: t, hp σ, c, z)) : Snd ex none d (oc, maxL, rt, mc, ms, hs, cd) (if ¬ y = 0 then X else none) cv (pc, ls, .inl y :: .inl x :: t, hp σ, c, z) := by
  refine T_chk (S1 := (pc + 1, ls, .inl (x - x / y * y) :: t, hp σ, c, z)) ?_ H
  unfold stp
  dsimp only
  rw [hel]
  rfl
theorem T_mmin {x y : Int32} (ht : ecats t ≤ 8) (hel : elk cd pc = some (.invokestatic idx, a1, 2, a3, a4, a5, a6)) (H : Snd ex none d (oc, maxL, rt, mc, ms, hs, cd) X cv (pc + 3, ls, .inl (if y < x then y else x) :: t, hp σ, c, z)) : Snd ex none d (oc, maxL, rt, mc, ms, hs, cd) X cv (pc, ls, .inl y :: .inl x :: t, hp σ, c, z) := by
  refine T_go 1 ?_ H
  unfold eGo stp
  dsimp only
  rw [hel]
  show (match (if ecats t ≤ 8 then .inl (pc + 3, ls, .inl (if y < x then y else x) :: t, hp σ, c, z) else estk : eO) with | .inl s' => _ | o => o) = _
  rw [if_pos ht]
  rfl
theorem T_idiv {x y : Int32} (hel : elk cd pc = some (.idiv, w)) (H : ¬ y = 0 → Snd ex none d (oc, maxL, rt, mc, ms, hs, cd) X cv (pc + 1, ls, .inl (x / y) :: t, hp σ, c, z)) : Snd ex none d (oc, maxL, rt, mc, ms, hs, cd) (if ¬ y = 0 then X else none) cv (pc, ls, .inl y :: .inl x :: t, hp σ, c, z) := by
  refine T_chk (S1 := (pc + 1, ls, .inl (x / y) :: t, hp σ, c, z)) ?_ H
  unfold stp
  dsimp only
  rw [hel]
  rfl
theorem T_iald {r : Nat} {i : Int32} (hel : elk cd pc = some (.iaload, w)) (H : (KH r).1 = 11 ∧ eix i (KH r).2 = true → Snd ex none d (oc, maxL, rt, mc, ms, hs, cd) X cv (pc + 1, ls, .inl (σ.1 r i.toNatClampNeg) :: t, hp σ, c, z)) : Snd ex none d (oc, maxL, rt, mc, ms, hs, cd) (if (KH r).1 = 11 ∧ eix i (KH r).2 = true then X else none) cv (pc, ls, .inl i :: .inr (.inr r) :: t, hp σ, c, z) := by
  refine T_chk (S1 := (pc + 1, ls, .inl (σ.1 r i.toNatClampNeg) :: t, hp σ, c, z)) ?_ H
  unfold stp
  dsimp only
  rw [hel]
  show (match r, (none : Option (Nat × (Nat → Int32))) with | 1, some X => _ | r, _ => _) = _
  split
  · rename_i q
    cases q
  · rfl
theorem T_alen {r : Nat} (hel : elk cd pc = some (.arraylength, w)) (H : 11 ≤ (KH r).1 ∧ (KH r).1 < 18 → Snd ex none d (oc, maxL, rt, mc, ms, hs, cd) X cv (pc + 1, ls, .inl (Int32.ofNat (KH r).2) :: t, hp σ, c, z)) : Snd ex none d (oc, maxL, rt, mc, ms, hs, cd) (if 11 ≤ (KH r).1 ∧ (KH r).1 < 18 then X else none) cv (pc, ls, .inr (.inr r) :: t, hp σ, c, z) := by
  refine T_chk (S1 := (pc + 1, ls, .inl (Int32.ofNat (KH r).2) :: t, hp σ, c, z)) ?_ H
  unfold stp
  dsimp only
  rw [hel]
  show (match r, (none : Option (Nat × (Nat → Int32))) with | 1, some X => _ | r, _ => _) = _
  split
  · rename_i q
    cases q
  · rfl
theorem T_icmp_eq {x y : Int32} {off : Int} (tgt : Nat) (hel : elk cd pc = some (.if_icmp .eq off, w)) (ht : (pc : Int) + off = (tgt : Int)) (h1 : x = y → Snd ex none d (oc, maxL, rt, mc, ms, hs, cd) X cv (tgt, ls, t, hp σ, c, z)) (h2 : ¬ (x = y) → Snd ex none d (oc, maxL, rt, mc, ms, hs, cd) Y cv (pc + 3, ls, t, hp σ, c, z)) : Snd ex none d (oc, maxL, rt, mc, ms, hs, cd) (if x = y then X else Y) cv (pc, ls, .inl y :: .inl x :: t, hp σ, c, z) := by
  refine T_if (S1 := (tgt, ls, t, hp σ, c, z)) (S2 := (pc + 3, ls, t, hp σ, c, z)) ?_ h1 h2
  unfold stp
  dsimp only
  rw [hel]
  show ejmp pc off (fun q => ebr .eq x y (.inl (q, ls, t, hp σ, c, z)) (.inl (pc + 3, ls, t, hp σ, c, z))) = _
  unfold ejmp
  rw [if_pos (by omega), ht]
  rfl
theorem T_if_eq {x : Int32} {off : Int} (tgt : Nat) (hel : elk cd pc = some (.ifCond .eq off, w)) (ht : (pc : Int) + off = (tgt : Int)) (h1 : x = 0 → Snd ex none d (oc, maxL, rt, mc, ms, hs, cd) X cv (tgt, ls, t, hp σ, c, z)) (h2 : ¬ (x = 0) → Snd ex none d (oc, maxL, rt, mc, ms, hs, cd) Y cv (pc + 3, ls, t, hp σ, c, z)) : Snd ex none d (oc, maxL, rt, mc, ms, hs, cd) (if x = 0 then X else Y) cv (pc, ls, .inl x :: t, hp σ, c, z) := by
  refine T_if (S1 := (tgt, ls, t, hp σ, c, z)) (S2 := (pc + 3, ls, t, hp σ, c, z)) ?_ h1 h2
  unfold stp
  dsimp only
  rw [hel]
  show ejmp pc off (fun q => ebr .eq x 0 (.inl (q, ls, t, hp σ, c, z)) (.inl (pc + 3, ls, t, hp σ, c, z))) = _
  unfold ejmp
  rw [if_pos (by omega), ht]
  rfl
theorem T_icmp_ne {x y : Int32} {off : Int} (tgt : Nat) (hel : elk cd pc = some (.if_icmp .ne off, w)) (ht : (pc : Int) + off = (tgt : Int)) (h1 : ¬ x = y → Snd ex none d (oc, maxL, rt, mc, ms, hs, cd) X cv (tgt, ls, t, hp σ, c, z)) (h2 : ¬ (¬ x = y) → Snd ex none d (oc, maxL, rt, mc, ms, hs, cd) Y cv (pc + 3, ls, t, hp σ, c, z)) : Snd ex none d (oc, maxL, rt, mc, ms, hs, cd) (if ¬ x = y then X else Y) cv (pc, ls, .inl y :: .inl x :: t, hp σ, c, z) := by
  refine T_if (S1 := (tgt, ls, t, hp σ, c, z)) (S2 := (pc + 3, ls, t, hp σ, c, z)) ?_ h1 h2
  unfold stp
  dsimp only
  rw [hel]
  show ejmp pc off (fun q => ebr .ne x y (.inl (q, ls, t, hp σ, c, z)) (.inl (pc + 3, ls, t, hp σ, c, z))) = _
  unfold ejmp
  rw [if_pos (by omega), ht]
  rfl
theorem T_if_ne {x : Int32} {off : Int} (tgt : Nat) (hel : elk cd pc = some (.ifCond .ne off, w)) (ht : (pc : Int) + off = (tgt : Int)) (h1 : ¬ x = 0 → Snd ex none d (oc, maxL, rt, mc, ms, hs, cd) X cv (tgt, ls, t, hp σ, c, z)) (h2 : ¬ (¬ x = 0) → Snd ex none d (oc, maxL, rt, mc, ms, hs, cd) Y cv (pc + 3, ls, t, hp σ, c, z)) : Snd ex none d (oc, maxL, rt, mc, ms, hs, cd) (if ¬ x = 0 then X else Y) cv (pc, ls, .inl x :: t, hp σ, c, z) := by
  refine T_if (S1 := (tgt, ls, t, hp σ, c, z)) (S2 := (pc + 3, ls, t, hp σ, c, z)) ?_ h1 h2
  unfold stp
  dsimp only
  rw [hel]
  show ejmp pc off (fun q => ebr .ne x 0 (.inl (q, ls, t, hp σ, c, z)) (.inl (pc + 3, ls, t, hp σ, c, z))) = _
  unfold ejmp
  rw [if_pos (by omega), ht]
  rfl
theorem T_icmp_lt {x y : Int32} {off : Int} (tgt : Nat) (hel : elk cd pc = some (.if_icmp .lt off, w)) (ht : (pc : Int) + off = (tgt : Int)) (h1 : x < y → Snd ex none d (oc, maxL, rt, mc, ms, hs, cd) X cv (tgt, ls, t, hp σ, c, z)) (h2 : ¬ (x < y) → Snd ex none d (oc, maxL, rt, mc, ms, hs, cd) Y cv (pc + 3, ls, t, hp σ, c, z)) : Snd ex none d (oc, maxL, rt, mc, ms, hs, cd) (if x < y then X else Y) cv (pc, ls, .inl y :: .inl x :: t, hp σ, c, z) := by
  refine T_if (S1 := (tgt, ls, t, hp σ, c, z)) (S2 := (pc + 3, ls, t, hp σ, c, z)) ?_ h1 h2
  unfold stp
  dsimp only
  rw [hel]
  show ejmp pc off (fun q => ebr .lt x y (.inl (q, ls, t, hp σ, c, z)) (.inl (pc + 3, ls, t, hp σ, c, z))) = _
  unfold ejmp
  rw [if_pos (by omega), ht]
  rfl
theorem T_if_lt {x : Int32} {off : Int} (tgt : Nat) (hel : elk cd pc = some (.ifCond .lt off, w)) (ht : (pc : Int) + off = (tgt : Int)) (h1 : x < 0 → Snd ex none d (oc, maxL, rt, mc, ms, hs, cd) X cv (tgt, ls, t, hp σ, c, z)) (h2 : ¬ (x < 0) → Snd ex none d (oc, maxL, rt, mc, ms, hs, cd) Y cv (pc + 3, ls, t, hp σ, c, z)) : Snd ex none d (oc, maxL, rt, mc, ms, hs, cd) (if x < 0 then X else Y) cv (pc, ls, .inl x :: t, hp σ, c, z) := by
  refine T_if (S1 := (tgt, ls, t, hp σ, c, z)) (S2 := (pc + 3, ls, t, hp σ, c, z)) ?_ h1 h2
  unfold stp
  dsimp only
  rw [hel]
  show ejmp pc off (fun q => ebr .lt x 0 (.inl (q, ls, t, hp σ, c, z)) (.inl (pc + 3, ls, t, hp σ, c, z))) = _
  unfold ejmp
  rw [if_pos (by omega), ht]
  rfl
theorem T_icmp_ge {x y : Int32} {off : Int} (tgt : Nat) (hel : elk cd pc = some (.if_icmp .ge off, w)) (ht : (pc : Int) + off = (tgt : Int)) (h1 : y ≤ x → Snd ex none d (oc, maxL, rt, mc, ms, hs, cd) X cv (tgt, ls, t, hp σ, c, z)) (h2 : ¬ (y ≤ x) → Snd ex none d (oc, maxL, rt, mc, ms, hs, cd) Y cv (pc + 3, ls, t, hp σ, c, z)) : Snd ex none d (oc, maxL, rt, mc, ms, hs, cd) (if y ≤ x then X else Y) cv (pc, ls, .inl y :: .inl x :: t, hp σ, c, z) := by
  refine T_if (S1 := (tgt, ls, t, hp σ, c, z)) (S2 := (pc + 3, ls, t, hp σ, c, z)) ?_ h1 h2
  unfold stp
  dsimp only
  rw [hel]
  show ejmp pc off (fun q => ebr .ge x y (.inl (q, ls, t, hp σ, c, z)) (.inl (pc + 3, ls, t, hp σ, c, z))) = _
  unfold ejmp
  rw [if_pos (by omega), ht]
  rfl
theorem T_if_ge {x : Int32} {off : Int} (tgt : Nat) (hel : elk cd pc = some (.ifCond .ge off, w)) (ht : (pc : Int) + off = (tgt : Int)) (h1 : 0 ≤ x → Snd ex none d (oc, maxL, rt, mc, ms, hs, cd) X cv (tgt, ls, t, hp σ, c, z)) (h2 : ¬ (0 ≤ x) → Snd ex none d (oc, maxL, rt, mc, ms, hs, cd) Y cv (pc + 3, ls, t, hp σ, c, z)) : Snd ex none d (oc, maxL, rt, mc, ms, hs, cd) (if 0 ≤ x then X else Y) cv (pc, ls, .inl x :: t, hp σ, c, z) := by
  refine T_if (S1 := (tgt, ls, t, hp σ, c, z)) (S2 := (pc + 3, ls, t, hp σ, c, z)) ?_ h1 h2
  unfold stp
  dsimp only
  rw [hel]
  show ejmp pc off (fun q => ebr .ge x 0 (.inl (q, ls, t, hp σ, c, z)) (.inl (pc + 3, ls, t, hp σ, c, z))) = _
  unfold ejmp
  rw [if_pos (by omega), ht]
  rfl
theorem T_icmp_gt {x y : Int32} {off : Int} (tgt : Nat) (hel : elk cd pc = some (.if_icmp .gt off, w)) (ht : (pc : Int) + off = (tgt : Int)) (h1 : y < x → Snd ex none d (oc, maxL, rt, mc, ms, hs, cd) X cv (tgt, ls, t, hp σ, c, z)) (h2 : ¬ (y < x) → Snd ex none d (oc, maxL, rt, mc, ms, hs, cd) Y cv (pc + 3, ls, t, hp σ, c, z)) : Snd ex none d (oc, maxL, rt, mc, ms, hs, cd) (if y < x then X else Y) cv (pc, ls, .inl y :: .inl x :: t, hp σ, c, z) := by
  refine T_if (S1 := (tgt, ls, t, hp σ, c, z)) (S2 := (pc + 3, ls, t, hp σ, c, z)) ?_ h1 h2
  unfold stp
  dsimp only
  rw [hel]
  show ejmp pc off (fun q => ebr .gt x y (.inl (q, ls, t, hp σ, c, z)) (.inl (pc + 3, ls, t, hp σ, c, z))) = _
  unfold ejmp
  rw [if_pos (by omega), ht]
  rfl
theorem T_if_gt {x : Int32} {off : Int} (tgt : Nat) (hel : elk cd pc = some (.ifCond .gt off, w)) (ht : (pc : Int) + off = (tgt : Int)) (h1 : 0 < x → Snd ex none d (oc, maxL, rt, mc, ms, hs, cd) X cv (tgt, ls, t, hp σ, c, z)) (h2 : ¬ (0 < x) → Snd ex none d (oc, maxL, rt, mc, ms, hs, cd) Y cv (pc + 3, ls, t, hp σ, c, z)) : Snd ex none d (oc, maxL, rt, mc, ms, hs, cd) (if 0 < x then X else Y) cv (pc, ls, .inl x :: t, hp σ, c, z) := by
  refine T_if (S1 := (tgt, ls, t, hp σ, c, z)) (S2 := (pc + 3, ls, t, hp σ, c, z)) ?_ h1 h2
  unfold stp
  dsimp only
  rw [hel]
  show ejmp pc off (fun q => ebr .gt x 0 (.inl (q, ls, t, hp σ, c, z)) (.inl (pc + 3, ls, t, hp σ, c, z))) = _
  unfold ejmp
  rw [if_pos (by omega), ht]
  rfl
theorem T_icmp_le {x y : Int32} {off : Int} (tgt : Nat) (hel : elk cd pc = some (.if_icmp .le off, w)) (ht : (pc : Int) + off = (tgt : Int)) (h1 : x ≤ y → Snd ex none d (oc, maxL, rt, mc, ms, hs, cd) X cv (tgt, ls, t, hp σ, c, z)) (h2 : ¬ (x ≤ y) → Snd ex none d (oc, maxL, rt, mc, ms, hs, cd) Y cv (pc + 3, ls, t, hp σ, c, z)) : Snd ex none d (oc, maxL, rt, mc, ms, hs, cd) (if x ≤ y then X else Y) cv (pc, ls, .inl y :: .inl x :: t, hp σ, c, z) := by
  refine T_if (S1 := (tgt, ls, t, hp σ, c, z)) (S2 := (pc + 3, ls, t, hp σ, c, z)) ?_ h1 h2
  unfold stp
  dsimp only
  rw [hel]
  show ejmp pc off (fun q => ebr .le x y (.inl (q, ls, t, hp σ, c, z)) (.inl (pc + 3, ls, t, hp σ, c, z))) = _
  unfold ejmp
  rw [if_pos (by omega), ht]
  rfl
theorem T_if_le {x : Int32} {off : Int} (tgt : Nat) (hel : elk cd pc = some (.ifCond .le off, w)) (ht : (pc : Int) + off = (tgt : Int)) (h1 : x ≤ 0 → Snd ex none d (oc, maxL, rt, mc, ms, hs, cd) X cv (tgt, ls, t, hp σ, c, z)) (h2 : ¬ (x ≤ 0) → Snd ex none d (oc, maxL, rt, mc, ms, hs, cd) Y cv (pc + 3, ls, t, hp σ, c, z)) : Snd ex none d (oc, maxL, rt, mc, ms, hs, cd) (if x ≤ 0 then X else Y) cv (pc, ls, .inl x :: t, hp σ, c, z) := by
  refine T_if (S1 := (tgt, ls, t, hp σ, c, z)) (S2 := (pc + 3, ls, t, hp σ, c, z)) ?_ h1 h2
  unfold stp
  dsimp only
  rw [hel]
  show ejmp pc off (fun q => ebr .le x 0 (.inl (q, ls, t, hp σ, c, z)) (.inl (pc + 3, ls, t, hp σ, c, z))) = _
  unfold ejmp
  rw [if_pos (by omega), ht]
  rfl
theorem T_ifnull {x : Nat} {off : Int} (tgt : Nat) (hel : elk cd pc = some (.ifnull off, w)) (ht : (pc : Int) + off = (tgt : Int)) (h1 : x = 0 → Snd ex none d (oc, maxL, rt, mc, ms, hs, cd) X cv (tgt, ls, t, hp σ, c, z)) (h2 : ¬ (x = 0) → Snd ex none d (oc, maxL, rt, mc, ms, hs, cd) Y cv (pc + 3, ls, t, hp σ, c, z)) : Snd ex none d (oc, maxL, rt, mc, ms, hs, cd) (if x = 0 then X else Y) cv (pc, ls, .inr (.inr x) :: t, hp σ, c, z) := by
  refine T_if (S1 := (tgt, ls, t, hp σ, c, z)) (S2 := (pc + 3, ls, t, hp σ, c, z)) ?_ h1 h2
  unfold stp
  dsimp only
  rw [hel]
  show ejmp pc off (fun q => if x = 0 then .inl (q, ls, t, hp σ, c, z) else .inl (pc + 3, ls, t, hp σ, c, z)) = _
  unfold ejmp
  rw [if_pos (by omega), ht]
  rfl
theorem T_ifnonnull {x : Nat} {off : Int} (tgt : Nat) (hel : elk cd pc = some (.ifnonnull off, w)) (ht : (pc : Int) + off = (tgt : Int)) (h1 : x = 0 → Snd ex none d (oc, maxL, rt, mc, ms, hs, cd) X cv (pc + 3, ls, t, hp σ, c, z)) (h2 : ¬ (x = 0) → Snd ex none d (oc, maxL, rt, mc, ms, hs, cd) Y cv (tgt, ls, t, hp σ, c, z)) : Snd ex none d (oc, maxL, rt, mc, ms, hs, cd) (if x = 0 then X else Y) cv (pc, ls, .inr (.inr x) :: t, hp σ, c, z) := by
  refine T_if (S1 := (pc + 3, ls, t, hp σ, c, z)) (S2 := (tgt, ls, t, hp σ, c, z)) ?_ h1 h2
  unfold stp
  dsimp only
  rw [hel]
  show ejmp pc off (fun q => if x = 0 then .inl (pc + 3, ls, t, hp σ, c, z) else .inl (q, ls, t, hp σ, c, z)) = _
  unfold ejmp
  rw [if_pos (by omega), ht]
  rfl
theorem T_cv {i : τ → Option eV} {y n f g r : Nat} {st as rest : List eV} {G : Option (τ × eMem)} {K : τ × eMem → Option ρ} (hel : elk cd pc = some (.invokevirtual idx, y, a2, n, a4, f, g)) (hr : st.drop n = .inr (.inr r) :: rest) (has : (st.take (n + 1)).reverse = as) (hc : c + f ≤ mc ∧ z + g ≤ ms ∧ ecats rest ≤ 8 ∧ n + 1 ≤ st.length) (hg : ∀ r2, G = some r2 → Ew ex d y as (hp σ) (cN i r2)) (hk : (KH r).1 = a4 → ∀ r2 : τ × eMem, Snd ex none d (oc, maxL, rt, mc, ms, hs, cd) (K r2) cv (pc + 3, ls, (i r2.1).toList ++ rest, hp r2.2, c + f, z + g)) : Snd ex none d (oc, maxL, rt, mc, ms, hs, cd) (if (KH r).1 = a4 then G.bind K else none) cv (pc, ls, st, hp σ, c, z) := by
  refine T_callc (as := as) (rest := rest) (c := c + f) (z := z + g) (w := 0) (vv := fun r2 => i r2.1) (hh := fun r2 => hp r2.2) ?_ hg hk
  unfold stp
  dsimp only
  rw [hel]
  show (match st.drop n with | .inr (.inr r) :: _ => (if (KH r).1 = a4 then ecall mc ms y (n + 1) f g pc ls st (hp σ) c z else estk) | _ => estk) = _
  rw [hr]
  dsimp only
  unfold ecall
  have hd : st.drop (n + 1) = rest := by rw [← List.tail_drop, hr]; rfl
  rw [hd, has, if_pos hc]
theorem T_cvx {i : τ → Option eV} {i2 : ρ → Option eV} {y n f g r : Nat} {st as rest : List eV} {G : Option ((Nat ⊕ τ) × eMem)} {K : τ → eMem → Option ((Nat ⊕ ρ) × eMem)} (hno : hs = []) (hel : elk cd pc = some (.invokevirtual idx, y, a2, n, a4, f, g)) (hr : st.drop n = .inr (.inr r) :: rest) (has : (st.take (n + 1)).reverse = as) (hc : c + f ≤ mc ∧ z + g ≤ ms ∧ ecats rest ≤ 8 ∧ n + 1 ≤ st.length) (hg : ∀ r2, G = some r2 → Ew ex d y as (hp σ) (cX i r2)) (hk : (KH r).1 = a4 → ∀ v σ2, Snd ex none d (oc, maxL, rt, mc, ms, hs, cd) (K v σ2) (cX i2) (pc + 3, ls, (i v).toList ++ rest, hp σ2, c + f, z + g)) : Snd ex none d (oc, maxL, rt, mc, ms, hs, cd) (if (KH r).1 = a4 then eThen G K else none) (cX i2) (pc, ls, st, hp σ, c, z) := by
  refine T_callxc (as := as) (rest := rest) (c := c + f) (z := z + g) (w := 0) (i := i) hno ?_ hg hk
  unfold stp
  dsimp only
  rw [hel]
  show (match st.drop n with | .inr (.inr r) :: _ => (if (KH r).1 = a4 then ecall mc ms y (n + 1) f g pc ls st (hp σ) c z else estk) | _ => estk) = _
  rw [hr]
  dsimp only
  unfold ecall
  have hd : st.drop (n + 1) = rest := by rw [← List.tail_drop, hr]; rfl
  rw [hd, has, if_pos hc]
theorem T_cs {i : τ → Option eV} {y n f g : Nat} {st as rest : List eV} {G : Option (τ × eMem)} {K : τ × eMem → Option ρ} (hel : elk cd pc = some (.invokestatic idx, y, a2, n, a4, f, g)) (ha2 : a2 < 2) (hr : st.drop n = rest) (has : (st.take n).reverse = as) (hc : c + f ≤ mc ∧ z + g ≤ ms ∧ ecats rest ≤ 8 ∧ n ≤ st.length) (hg : ∀ r2, G = some r2 → Ew ex d y as (hp σ) (cN i r2)) (hk : ∀ r2 : τ × eMem, Snd ex none d (oc, maxL, rt, mc, ms, hs, cd) (K r2) cv (pc + 3, ls, (i r2.1).toList ++ rest, hp r2.2, c + f, z + g)) : Snd ex none d (oc, maxL, rt, mc, ms, hs, cd) (G.bind K) cv (pc, ls, st, hp σ, c, z) := by
  refine T_call (as := as) (rest := rest) (c := c + f) (z := z + g) (w := 0) (vv := fun r2 => i r2.1) (hh := fun r2 => hp r2.2) ?_ hg hk
  unfold stp
  dsimp only
  rw [hel]
  have e : a2 = 0 ∨ a2 = 1 := by omega
  rcases e with e | e <;> subst e
  all_goals
    show ecall mc ms y n f g pc ls st (hp σ) c z = _
    unfold ecall
    rw [hr, has, if_pos hc]
theorem T_csx {i : τ → Option eV} {i2 : ρ → Option eV} {y n f g : Nat} {st as rest : List eV} {G : Option ((Nat ⊕ τ) × eMem)} {K : τ → eMem → Option ((Nat ⊕ ρ) × eMem)} (hno : hs = []) (hel : elk cd pc = some (.invokestatic idx, y, a2, n, a4, f, g)) (ha2 : a2 < 2) (hr : st.drop n = rest) (has : (st.take n).reverse = as) (hc : c + f ≤ mc ∧ z + g ≤ ms ∧ ecats rest ≤ 8 ∧ n ≤ st.length) (hg : ∀ r2, G = some r2 → Ew ex d y as (hp σ) (cX i r2)) (hk : ∀ v σ2, Snd ex none d (oc, maxL, rt, mc, ms, hs, cd) (K v σ2) (cX i2) (pc + 3, ls, (i v).toList ++ rest, hp σ2, c + f, z + g)) : Snd ex none d (oc, maxL, rt, mc, ms, hs, cd) (eThen G K) (cX i2) (pc, ls, st, hp σ, c, z) := by
  refine T_callx (as := as) (rest := rest) (c := c + f) (z := z + g) (w := 0) (i := i) hno ?_ hg hk
  unfold stp
  dsimp only
  rw [hel]
  have e : a2 = 0 ∨ a2 = 1 := by omega
  rcases e with e | e <;> subst e
  all_goals
    show ecall mc ms y n f g pc ls st (hp σ) c z = _
    unfold ecall
    rw [hr, has, if_pos hc]
theorem T_newx {E : Nat} {st : List eV} {i2 : ρ → Option eV} (hel : elk cd pc = some (.new idx, E, 1, a3, a4, a5, a6)) (hc : c + 1 ≤ mc ∧ z + 6 ≤ ms ∧ ecats st ≤ 8) : Snd false none d (oc, maxL, rt, mc, ms, hs, cd) (some ((.inl E : Nat ⊕ ρ), σ)) (cX i2) (pc, ls, st, hp σ, c, z) := by
  refine T_ret ?_
  unfold stp
  dsimp only
  rw [hel]
  show (if false = false ∧ c + 1 ≤ mc ∧ z + 6 ≤ ms ∧ ecats st ≤ 8 then _ else _) = _
  rw [if_pos ⟨rfl, hc⟩]
  rfl
theorem T_sw (k : Int32) {x : Int32} {tgt : Nat} (h : stp ex none (oc, maxL, rt, mc, ms, hs, cd) (pc, ls, .inl k :: t, hp σ, c, z) = .inl (tgt, ls, t, hp σ, c, z)) (h1 : x = k → Snd ex none d (oc, maxL, rt, mc, ms, hs, cd) X cv (tgt, ls, t, hp σ, c, z)) (h2 : ¬ x = k → Snd ex none d (oc, maxL, rt, mc, ms, hs, cd) Y cv (pc, ls, .inl x :: t, hp σ, c, z)) : Snd ex none d (oc, maxL, rt, mc, ms, hs, cd) (if x = k then X else Y) cv (pc, ls, .inl x :: t, hp σ, c, z) := by
  by_cases q : x = k
  · rw [if_pos q]
    have h3 := h1 q
    clear h1 h2
    subst q
    refine T_go 1 ?_ h3
    unfold eGo
    rw [h]
    rfl
  · rw [if_neg q]
    exact h2 q
theorem T_tso {x : Int32} {dflt lo hi : Int} {offs : Array Int} (tgt : Nat) (hel : elk cd pc = some (.tableswitch dflt lo hi offs, w)) (hx : x.toInt < lo ∨ hi < x.toInt) (ht : (pc : Int) + dflt = (tgt : Int)) (h1 : Snd ex none d (oc, maxL, rt, mc, ms, hs, cd) X cv (tgt, ls, t, hp σ, c, z)) : Snd ex none d (oc, maxL, rt, mc, ms, hs, cd) X cv (pc, ls, .inl x :: t, hp σ, c, z) := by
  refine T_go 1 ?_ h1
  unfold eGo stp
  dsimp only
  rw [hel]
  show (match (if x.toInt < lo ∨ hi < x.toInt then ejmp pc dflt (fun q => .inl (q, ls, t, hp σ, c, z)) else (match offs[(x.toInt - lo).toNat]? with
    | some o => ejmp pc o (fun q => .inl (q, ls, t, hp σ, c, z))
    | none => estk)) with | .inl s' => _ | o => o) = _
  rw [if_pos hx]
  unfold ejmp
  rw [if_pos (by omega), ht]
  rfl
theorem T_lso {x : Int32} {dflt : Int} {ps : Array (Int × Int)} (tgt : Nat) (hel : elk cd pc = some (.lookupswitch dflt ps, w)) (hx : Op.lookupswitch.offset ps.toList dflt x.toInt = dflt) (ht : (pc : Int) + dflt = (tgt : Int)) (h1 : Snd ex none d (oc, maxL, rt, mc, ms, hs, cd) X cv (tgt, ls, t, hp σ, c, z)) : Snd ex none d (oc, maxL, rt, mc, ms, hs, cd) X cv (pc, ls, .inl x :: t, hp σ, c, z) := by
  refine T_go 1 ?_ h1
  unfold eGo stp
  dsimp only
  rw [hel]
  show (match (ejmp pc (Op.lookupswitch.offset ps.toList dflt x.toInt) (fun q => .inl (q, ls, t, hp σ, c, z))) with | .inl s' => _ | o => o) = _
  rw [hx]
  unfold ejmp
  rw [if_pos (by omega), ht]
  rfl
theorem e_i32 {x : Int32} {k : Int} (h : ¬ x = Int32.ofInt k) (hk : -2147483648 ≤ k ∧ k < 2147483648) : x.toInt ≠ k := by
  intro q
  apply h
  rw [← q, Int32.ofInt_toInt]
theorem e_osw {x : Int32} {k o d : Int} {ps : List (Int × Int)} {r : Int} (h : x.toInt ≠ k) (H : Op.lookupswitch.offset ps d x.toInt = r) : Op.lookupswitch.offset ((k, o) :: ps) d x.toInt = r := by
  rw [Op.lookupswitch.offset_cons, if_neg (fun e => h e.symm)]
  exact H
end ERI
