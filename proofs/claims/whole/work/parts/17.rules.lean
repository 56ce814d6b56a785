/-! how what is written for the evaluator is run by it -/
section ERU
variable {ex : Bool} {sc : Option (Nat × (Nat → Int32))} {md : eM} {cal cal' : Nat → List eV → eH → eR → Prop}
theorem EwN_mono (hc : ∀ y as h o, cal y as h o → cal' y as h o) : ∀ n S out, EwN ex sc cal md n S out → EwN ex sc cal' md n S out := by
  intro n
  induction n with
  | zero => exact fun S out h => h.elim
  | succ n ih =>
    intro S out h
    unfold EwN at h ⊢
    rcases h with ⟨ls', g1, g2⟩ | h
    · exact Or.inl ⟨ls', g1, ih _ _ g2⟩
    · refine Or.inr ?_
      generalize stp ex sc md S = w at h ⊢
      rcases w with S' | (r | (⟨y, as, hh, pc, ls, rest, c, z, w⟩ | u))
      · exact ih _ _ h
      · exact h
      · obtain ⟨o, g1, g2⟩ := h
        refine ⟨o, hc _ _ _ _ g1, ?_⟩
        rcases o with ⟨v, h'⟩ | ⟨E, h'⟩
        · exact ih _ _ g2
        · dsimp only at g2 ⊢
          cases hh2 : ehand md.2.2.2.2.2.1 pc E with
          | none => rw [hh2] at g2; exact g2
          | some hp =>
            rw [hh2] at g2
            dsimp only at g2 ⊢
            cases hc2 : ecatch md hp ls with
            | none => rw [hc2] at g2; exact g2
            | some w => rw [hc2] at g2; exact ih _ _ g2
      · exact h
theorem Ew_succ : ∀ d y as h o, Ew ex d y as h o → Ew ex (d + 1) y as h o := by
  intro d
  induction d with
  | zero => exact fun y as h o h0 => h0.elim
  | succ d ih =>
    intro y as h o h0
    obtain ⟨md, g1, g2, n, g3⟩ := h0
    exact ⟨md, g1, g2, n, EwN_mono ih n _ _ g3⟩
theorem Ew_le {d d' y : Nat} {as : List eV} {h : eH} {o : eR} (hd : d ≤ d') (h0 : Ew ex d y as h o) : Ew ex d' y as h o := by
  obtain ⟨k, rfl⟩ := Nat.exists_eq_add_of_le hd
  induction k with
  | zero => exact h0
  | succ k ih => exact Ew_succ _ _ _ _ _ (ih (Nat.le_add_right _ _))
def eGo (ex : Bool) (sc : Option (Nat × (Nat → Int32))) (md : eM) : Nat → eS → eO
  | 0, s => .inl s
  | n + 1, s => match stp ex sc md s with
    | .inl s' => eGo ex sc md n s'
    | o => o
def Es (ex : Bool) (sc : Option (Nat × (Nat → Int32))) (d : Nat) (md : eM) (S : eS) (out : eR) : Prop := ∃ n, EwN ex sc (Ew ex d) md n S out
/-- what X says, the evaluator does from S on -/
def Snd {ρ : Type} (ex : Bool) (sc : Option (Nat × (Nat → Int32))) (d : Nat) (md : eM) (X : Option ρ) (cv : ρ → eR) (S : eS) : Prop := ∀ r, X = some r → Es ex sc d md S (cv r)
def eLet {α β : Type} (v : α) (k : α → β) : β := k v
variable {ρ τ : Type} {d : Nat} {X Y : Option ρ} {cv : ρ → eR} {S S' S1 S2 : eS}
theorem T_go (k : Nat) (h : eGo ex sc md k S = .inl S') (H : Snd ex sc d md X cv S') : Snd ex sc d md X cv S := by
  induction k generalizing S with
  | zero =>
    have h : Sum.inl S = Sum.inl S' := h
    injection h with h
    subst h
    exact H
  | succ k ih =>
    unfold eGo at h
    intro r hr
    cases hs : stp ex sc md S with
    | inl w =>
      rw [hs] at h
      obtain ⟨n, hn⟩ := ih h r hr
      refine ⟨n + 1, ?_⟩
      unfold EwN
      refine Or.inr ?_
      rw [hs]
      exact hn
    | inr w =>
      rw [hs] at h
      cases h
theorem T_ret {v : ρ} (h : stp ex sc md S = .inr (.inl (cv v))) : Snd ex sc d md (some v) cv S := by
  intro r hr
  have hr := Option.some.inj hr
  subst hr
  refine ⟨1, ?_⟩
  unfold EwN
  refine Or.inr ?_
  rw [h]
theorem T_if {P : Prop} {_ : Decidable P} (h : stp ex sc md S = (if P then .inl S1 else .inl S2)) (h1 : P → Snd ex sc d md X cv S1) (h2 : ¬ P → Snd ex sc d md Y cv S2) : Snd ex sc d md (if P then X else Y) cv S := by
  by_cases q : P
  · rw [if_pos q] at h ⊢
    refine T_go 1 ?_ (h1 q)
    unfold eGo
    rw [h]
    rfl
  · rw [if_neg q] at h ⊢
    refine T_go 1 ?_ (h2 q)
    unfold eGo
    rw [h]
    rfl
theorem T_none : Snd ex sc d md (none : Option ρ) cv S := fun r hr => nomatch hr
theorem T_chk {P : Prop} {_ : Decidable P} (h : stp ex sc md S = (if P then .inl S1 else estk)) (h1 : P → Snd ex sc d md X cv S1) : Snd ex sc d md (if P then X else none) cv S := by
  by_cases q : P
  · rw [if_pos q] at h ⊢
    refine T_go 1 ?_ (h1 q)
    unfold eGo
    rw [h]
    rfl
  · rw [if_neg q]
    exact T_none
/-- a check that the evaluator makes at an end -/
theorem T_chkr {P : Prop} {_ : Decidable P} {v : ρ} (h : stp ex sc md S = (if P then .inr (.inl (cv v)) else estk)) : Snd ex sc d md (if P then some v else none) cv S := by
  by_cases q : P
  · rw [if_pos q] at h ⊢
    exact T_ret h
  · rw [if_neg q]
    exact T_none
theorem T_let {α : Type} {v : α} {k : α → Option ρ} {Sf : α → eS} (h : ∀ x, Snd ex sc d md (k x) cv (Sf x)) : Snd ex sc d md (eLet v k) cv (Sf v) := h v
theorem T_loc {pc : Nat} {ls ls' : eL} {w : List eV × eH × Nat × Nat} (ps : List Nat) (h : ps.filterMap (fun k => ls[k]?) = ls') (H : Snd ex sc d md X cv (pc, ls', w)) : Snd ex sc d md X cv (pc, ls, w) := by
  intro r hr
  obtain ⟨n, hn⟩ := H r hr
  refine ⟨n + 1, ?_⟩
  unfold EwN
  refine Or.inl ⟨ls', fun q hq => ?_, hn⟩
  rw [← h] at hq
  obtain ⟨k, -, hk⟩ := List.mem_filterMap.mp hq
  exact List.mem_of_getElem? hk
theorem T_call {y pc : Nat} {as rest : List eV} {h : eH} {ls : eL} {c z w : Nat} {G : Option τ} {K : τ → Option ρ} {vv : τ → Option eV} {hh : τ → eH} (hs : stp ex sc md S = .inr (.inr (.inl (y, as, h, pc, ls, rest, c, z, w))))
    (hg : ∀ r, G = some r → Ew ex d y as h (.inl (vv r, hh r))) (hk : ∀ r, Snd ex sc d md (K r) cv (pc + 3, ls, (vv r).toList ++ rest, hh r, c, z)) : Snd ex sc d md (G.bind K) cv S := by
  intro r hr
  obtain ⟨q, hq, hr⟩ := Option.bind_eq_some_iff.mp hr
  obtain ⟨n, hn⟩ := hk q r hr
  refine ⟨n + 1, ?_⟩
  unfold EwN
  refine Or.inr ?_
  rw [hs]
  exact ⟨_, hg q hq, hn⟩
theorem T_callc {P : Prop} {_ : Decidable P} {y pc : Nat} {as rest : List eV} {h : eH} {ls : eL} {c z w : Nat} {G : Option τ} {K : τ → Option ρ} {vv : τ → Option eV} {hh : τ → eH} (hs : stp ex sc md S = (if P then .inr (.inr (.inl (y, as, h, pc, ls, rest, c, z, w))) else estk))
    (hg : ∀ r, G = some r → Ew ex d y as h (.inl (vv r, hh r))) (hk : P → ∀ r, Snd ex sc d md (K r) cv (pc + 3, ls, (vv r).toList ++ rest, hh r, c, z)) : Snd ex sc d md (if P then G.bind K else none) cv S := by
  by_cases q : P
  · rw [if_pos q] at hs ⊢
    exact T_call hs hg (hk q)
  · rw [if_neg q]
    exact T_none
end ERU
abbrev eMem : Type := (Nat → Nat → Int32) × (Nat → Nat → Int64)
def eKl : List (Nat × Nat) := [(9, 0), (11, 10), (3, 0), (17, 15), (11, 64), (11, 64), (11, 64), (11, 64), (11, 64), (11, 64), (11, 64), (11, 64), (11, 64), (11, 64), (11, 64), (11, 64), (11, 64), (11, 64), (11, 64), (11, 15), (11, 15), (1, 0), (15, 16), (2, 0), (11, 4), (2, 0), (11, 4), (2, 0), (11, 4), (2, 0), (11, 4), (2, 0), (11, 4), (2, 0), (11, 4), (2, 0), (11, 4), (2, 0), (11, 4), (2, 0), (11, 4), (2, 0), (11, 4), (2, 0), (11, 4), (2, 0), (11, 4), (2, 0), (11, 4), (2, 0), (11, 4), (2, 0), (11, 4), (2, 0), (11, 4), (14, 4), (7, 0), (11, 12), (11, 12), (11, 12), (11, 12), (11, 3), (5, 0), (11, 720), (5, 0), (11, 720), (4, 0), (11, 6), (13, 12), (11, 3), (5, 0), (11, 720), (0, 0), (16, 4), (11, 16), (11, 4), (11, 4), (8, 0), (13, 16), (11, 16), (6, 0), (6, 0), (6, 0), (6, 0), (0, 0), (16, 4), (11, 16), (11, 4), (11, 4), (8, 0), (13, 16), (11, 16), (6, 0), (6, 0), (6, 0), (6, 0), (0, 0), (16, 4), (11, 16), (11, 4), (11, 4), (8, 0), (13, 16), (11, 16), (6, 0), (6, 0), (6, 0), (6, 0), (0, 0), (16, 4), (11, 16), (11, 4), (11, 4), (8, 0), (13, 16), (11, 16), (6, 0), (6, 0), (6, 0), (6, 0), (10, 0), (11, 16), (11, 16), (11, 16), (13, 16), (11, 16), (11, 16), (11, 16), (11, 16), (11, 128), (11, 15), (11, 15), (11, 1920), (11, 16), (11, 16), (11, 16), (11, 16), (13, 16), (11, 16), (11, 64), (11, 4), (11, 16), (11, 16), (13, 4), (13, 4), (11, 4), (11, 4), (11, 4), (11, 64), (11, 4), (11, 4), (11, 10), (11, 3), (11, 12), (11, 12), (11, 12), (12, 256), (12, 8192), (11, 1024), (12, 1)]
def eRl : List (List Nat) := [[3, 4, 23, 57, 58, 64, 66, 68], [], [5, 21, 22], [6, 7, 8, 9, 10, 11, 12, 13, 14, 15, 16, 17, 18, 19, 20], [], [], [], [], [], [], [], [], [], [], [], [], [], [], [], [], [], [24, 4, 3], [25, 27, 29, 31, 33, 35, 37, 39, 41, 43, 45, 47, 49, 51, 53, 55], [0, 0, 0, 0, 0, 0, 26], [], [0, 0, 0, 0, 0, 0, 28], [], [0, 0, 0, 0, 0, 0, 30], [], [0, 0, 0, 0, 0, 0, 32], [], [0, 0, 0, 0, 0, 0, 34], [], [0, 0, 0, 0, 0, 0, 36], [], [0, 0, 0, 0, 0, 0, 38], [], [0, 0, 0, 0, 0, 0, 40], [], [0, 0, 0, 0, 0, 0, 42], [], [0, 0, 0, 0, 0, 0, 44], [], [0, 0, 0, 0, 0, 0, 46], [], [0, 0, 0, 0, 0, 0, 48], [], [0, 0, 0, 0, 0, 0, 50], [], [0, 0, 0, 0, 0, 0, 52], [], [0, 0, 0, 0, 0, 0, 54], [], [0, 0, 0, 0, 0, 0, 56], [], [74, 86, 98, 110], [59, 60, 61, 62, 63], [], [], [], [], [], [65], [], [67], [], [69, 70, 71, 72], [], [], [], [73], [], [0, 4, 3, 75, 76, 77, 78, 0, 79], [82, 83, 84, 85], [], [], [], [0, 0, 0, 0, 0, 80, 81], [], [], [], [], [], [], [0, 4, 3, 87, 88, 89, 90, 0, 91], [94, 95, 96, 97], [], [], [], [0, 0, 0, 0, 0, 92, 93], [], [], [], [], [], [], [0, 4, 3, 99, 100, 101, 102, 0, 103], [106, 107, 108, 109], [], [], [], [0, 0, 0, 0, 0, 104, 105], [], [], [], [], [], [], [0, 4, 3, 111, 112, 113, 114, 0, 115], [118, 119, 120, 121], [], [], [], [0, 0, 0, 0, 0, 116, 117], [], [], [], [], [], [], [123, 124, 125, 126, 127, 128, 129, 130, 131, 132, 133, 134, 135, 136, 137, 138, 139, 140, 0, 141, 142, 143, 144, 145, 146, 147, 148, 149, 150, 151, 152, 153, 0, 154, 155, 156, 157, 158, 0, 159, 0, 160], [], [], [], [], [], [], [], [], [], [], [], [], [], [], [], [], [], [], [], [], [], [], [], [], [], [], [], [], [], [], [], [], [], [], [], [], [], [], []]
/-- kinds and references of what the law makes first -/
def KH (r : Nat) : Nat × Nat := if r < 2 then (99, 0) else eKl.getD (r - 2) (99, 0)
def RH (r k : Nat) : Nat := if r < 2 then 0 else (eRl.getD (r - 2) []).getD k 0
abbrev hp (σ : eMem) : eH := (162, KH, σ.1, RH, σ.2)
abbrev iI (x : Int32) : Option eV := some (.inl x)
abbrev iJ (x : Int64) : Option eV := some (.inr (.inl x))
abbrev iR (x : Nat) : Option eV := some (.inr (.inr x))
abbrev iU (_ : Unit) : Option eV := none
/-- a method that ends with a value -/
abbrev cN {τ : Type} (i : τ → Option eV) (r : τ × eMem) : eR := .inl (i r.1, hp r.2)
/-- a method that ends with a value, or throws -/
def cX {τ : Type} (i : τ → Option eV) (r : (Nat ⊕ τ) × eMem) : eR := match r.1 with
  | .inl E => .inr (E, hp r.2)
  | .inr v => .inl (i v, hp r.2)
def eThen {τ ρ : Type} (G : Option ((Nat ⊕ τ) × eMem)) (K : τ → eMem → Option ((Nat ⊕ ρ) × eMem)) : Option ((Nat ⊕ ρ) × eMem) := match G with
  | none => none
  | some (.inl E, σ) => some (.inl E, σ)
  | some (.inr v, σ) => K v σ
section ERX
variable {ex : Bool} {sc : Option (Nat × (Nat → Int32))} {md : eM} {ρ τ : Type} {d : Nat} {S : eS} {i : τ → Option eV} {i2 : ρ → Option eV}
theorem T_callx {y pc : Nat} {as rest : List eV} {h : eH} {ls : eL} {c z w : Nat} {G : Option ((Nat ⊕ τ) × eMem)} {K : τ → eMem → Option ((Nat ⊕ ρ) × eMem)} (hno : md.2.2.2.2.2.1 = []) (hs : stp ex sc md S = .inr (.inr (.inl (y, as, h, pc, ls, rest, c, z, w))))
    (hg : ∀ r, G = some r → Ew ex d y as h (cX i r)) (hk : ∀ v σ, Snd ex sc d md (K v σ) (cX i2) (pc + 3, ls, (i v).toList ++ rest, hp σ, c, z)) : Snd ex sc d md (eThen G K) (cX i2) S := by
  intro r hr
  rcases hG : G with _ | ⟨E | v, σ⟩
  · rw [hG] at hr
    cases hr
  · rw [hG] at hr
    have hr := Option.some.inj hr
    subst hr
    refine ⟨1, ?_⟩
    unfold EwN
    refine Or.inr ?_
    rw [hs]
    refine ⟨_, hg _ hG, ?_⟩
    unfold cX
    dsimp only
    rw [hno]
    exact ⟨rfl, rfl⟩
  · rw [hG] at hr
    obtain ⟨n, hn⟩ := hk v σ r hr
    refine ⟨n + 1, ?_⟩
    unfold EwN
    refine Or.inr ?_
    rw [hs]
    exact ⟨_, hg _ hG, hn⟩
theorem T_callxc {P : Prop} {_ : Decidable P} {y pc : Nat} {as rest : List eV} {h : eH} {ls : eL} {c z w : Nat} {G : Option ((Nat ⊕ τ) × eMem)} {K : τ → eMem → Option ((Nat ⊕ ρ) × eMem)} (hno : md.2.2.2.2.2.1 = []) (hs : stp ex sc md S = (if P then .inr (.inr (.inl (y, as, h, pc, ls, rest, c, z, w))) else estk))
    (hg : ∀ r, G = some r → Ew ex d y as h (cX i r)) (hk : P → ∀ v σ, Snd ex sc d md (K v σ) (cX i2) (pc + 3, ls, (i v).toList ++ rest, hp σ, c, z)) : Snd ex sc d md (if P then eThen G K else none) (cX i2) S := by
  by_cases q : P
  · rw [if_pos q] at hs ⊢
    exact T_callx hno hs hg (hk q)
  · rw [if_neg q]
    exact T_none
/-- a method, by its code's first state -/
theorem T_meth {y d0 : Nat} {as : List eV} {h : eH} {X : Option ρ} {cv : ρ → eR} {D : Nat} (hm : mt y = some md) (hc : ecats as ≤ md.2.1) (hD : d0 + 1 ≤ D) (H : Snd ex none d0 md X cv (0, eargs 0 as, [], h, 0, 0)) : ∀ r, X = some r → Ew ex D y as h (cv r) := by
  intro r hr
  obtain ⟨n, hn⟩ := H r hr
  exact Ew_le hD ⟨md, hm, hc, n, hn⟩
end ERX
