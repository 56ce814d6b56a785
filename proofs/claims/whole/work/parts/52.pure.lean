/-! how the reference's memory, and the class's, hold the picture -/
def aSc (r i : Nat) : Prop := (123 ≤ r ∧ r ≤ 153 ∧ ¬ (130 ≤ r ∧ r ≤ 134)) ∨ (r = 122 ∧ i = 18)
def gRn (m : aM) : Nat := m.1 + 16 * m.2.1 + 256 * m.2.2.1 + 2048 * m.2.2.2
def gRm (m : aM) : Int32 := Int32.ofNat (gRn m)
def RoOk (I : Nat → Nat → Int32) (a : aS) (l : Nat) : Prop :=
  I 130 l = Int32.ofNat (a.2 (15 + l)).length ∧ (a.2 (15 + l)).length ≤ 8 ∧ ∀ k (h : k < (a.2 (15 + l)).length), I 131 (8 * l + k) = gRm (a.2 (15 + l))[k]
def RqOk (I : Nat → Nat → Int32) (a : aS) (q : Nat) : Prop := Rng (fun k => I 134 (128 * q + k)) (I 132 q) (I 133 q) 128 gRm (a.2 q)
def RepR (I : Nat → Nat → Int32) (a : aS) : Prop :=
  (∀ r i, aSc r i → I r i = a.1 r i) ∧ (∀ q, q < 15 → RqOk I a q) ∧ ∀ l, l < 16 → RoOk I a l
/-- the class's form of a message -/
def gCn (m : aM) : Nat := match m.1 with
  | 0 => 16 * m.2.1 + 256 * m.2.2.1
  | 1 => 1 + 16 * m.2.1 + 256 * m.2.2.1
  | 2 => 2 + 16 * m.2.1 + 256 * m.2.2.1 + 1024 * (m.2.2.2 + 1)
  | 3 => 4 + 16 * m.2.1
  | 4 => 5 + 16 * m.2.1
  | 5 => 3 + 16 * m.2.1
  | 6 => (5 + m.2.2.1) + 16 * m.2.1 + 1024 * (m.2.2.2 + 1)
  | 7 => 9 + 16 * m.2.1
  | 8 => 10 + 16 * m.2.1 + 256 * m.2.2.1 + 1024 * (m.2.2.2 + 1)
  | _ => 10 + 16 * m.2.1 + 256 * m.2.2.1
def gCm (m : aM) : Int32 := Int32.ofNat (gCn m)
def aVal (s : Int32) : Bool := decide (s = 1) || aOwn s
def HmOk (I : Nat → Nat → Int32) (a : aS) (l : Nat) : Prop :=
  I (25 + 2 * l) 0 = a.1 123 l ∧ I (25 + 2 * l) 1 = a.1 124 l ∧ I (25 + 2 * l) 2 = (if a.1 126 l = 0 then a.1 125 l else 15) ∧
  I (25 + 2 * l) 3 = (if a.1 127 l = -1 then 0 else 1) ∧
  (¬ a.1 127 l = -1 → I (25 + 2 * l) 4 = gCm (aNt (a.1 127 l), l, aNt (a.1 128 l), 0) ∧ I (25 + 2 * l) 5 = a.1 129 l) ∧
  I (25 + 2 * l) 7 = Int32.ofNat (a.2 (15 + l)).length ∧ (a.2 (15 + l)).length ≤ 4 ∧ ∀ k (h : k < (a.2 (15 + l)).length), I (26 + 2 * l) k = gCm (a.2 (15 + l))[k]
def MlOk (I : Nat → Nat → Int32) (a : aS) (q : Nat) : Prop := Rng (I (6 + q)) (I 21 q) (I 22 q) 64 gCm (a.2 q)
def aFw (x : Int32) : Int32 := if x = -1 then 0 else x + 1
def PlOk (I : Nat → Nat → Int32) (a : aS) (c p : Nat) : Prop :=
  I (82 + 12 * c + p) 1 = a.1 136 (4 * c + p) ∧ I (82 + 12 * c + p) 0 = (if a.1 136 (4 * c + p) = 0 then -1 else a.1 135 (4 * c + p)) ∧
  (aVal (a.1 136 (4 * c + p)) = true → I (82 + 12 * c + p) 2 = a.1 137 (4 * c + p)) ∧
  (aWt (a.1 136 (4 * c + p)) = true → I (82 + 12 * c + p) 4 = a.1 139 (4 * c + p)) ∧ (aWt (a.1 136 (4 * c + p)) = true → I (82 + 12 * c + p) 5 = aFw (a.1 140 (4 * c + p)))
def UsOk (I : Nat → Nat → Int32) (a : aS) (c : Nat) : Prop := ∃ u v, I (74 + 12 * c) 9 = Int32.ofNat u ∧ a.1 122 18 = Int32.ofNat v ∧ u ≤ v ∧ v < 2000000000 ∧
  (∀ p, p < 4 → aVal (a.1 136 (4 * c + p)) = true → ∃ s t, I (82 + 12 * c + p) 3 = Int32.ofNat s ∧ a.1 138 (4 * c + p) = Int32.ofNat t ∧ s ≤ u ∧ t ≤ v) ∧
  ∀ p p', p < 4 → p' < 4 → aVal (a.1 136 (4 * c + p)) = true → aVal (a.1 136 (4 * c + p')) = true →
    (I (82 + 12 * c + p) 3 < I (82 + 12 * c + p') 3 ↔ a.1 138 (4 * c + p) < a.1 138 (4 * c + p'))
def LvOk (I : Nat → Nat → Int32) (a : aS) (c : Nat) : Prop := ∀ l, l < 16 → I (76 + 12 * c) l = a.1 141 (16 * c + l)
def CoOk (I : Nat → Nat → Int32) (a : aS) (c : Nat) : Prop :=
  I (74 + 12 * c) 0 = Int32.ofNat c ∧ I (74 + 12 * c) 7 = a.1 142 c ∧ I (74 + 12 * c) 10 = a.1 151 c ∧ I (74 + 12 * c) 11 = a.1 152 c ∧
  ∀ k, k < 4 → Int32.ofNat k < a.1 142 c → I (77 + 12 * c) k = a.1 143 (4 * c + k) ∧ I (78 + 12 * c) k = a.1 144 (4 * c + k)
def TxOk (I : Nat → Nat → Int32) (a : aS) (c : Nat) : Prop :=
  I (79 + 12 * c) 0 = a.1 145 c ∧ I (79 + 12 * c) 1 = a.1 146 c ∧ I (79 + 12 * c) 2 = a.1 147 c ∧
  (¬ a.1 145 c = 0 → I (79 + 12 * c) 3 = Int32.ofNat (aPop (a.1 148 c ||| a.1 149 c)) ∧ I (79 + 12 * c) 4 = Int32.ofNat (aPop (a.1 149 c)) ∧
    ∀ l, l < 16 → I (80 + 12 * c) l = (if aBit (a.1 148 c ||| a.1 149 c) l = true then 1 else 0) ∧
      I (81 + 12 * c) l = (if aBit (a.1 149 c) l = true then a.1 150 (16 * c + l) else -1))
def CnOk (I : Nat → Nat → Int32) (a : aS) : Prop := ∀ k, k < 10 → I 3 k = a.1 153 k
def RepC (I : Nat → Nat → Int32) (a : aS) : Prop :=
  (∀ l, l < 16 → HmOk I a l) ∧ (∀ q, q < 15 → MlOk I a q) ∧ (∀ c p, c < 4 → p < 4 → PlOk I a c p) ∧ (∀ c, c < 4 → UsOk I a c) ∧
  (∀ c, c < 4 → LvOk I a c) ∧ (∀ c, c < 4 → CoOk I a c) ∧ (∀ c, c < 4 → TxOk I a c) ∧ CnOk I a
/-- what stays while the class runs, and while the reference does -/
def CF (I0 I : Nat → Nat → Int32) (a : aS) : Prop := RepC I a ∧ ∀ r, (r < 3 ∨ (57 ≤ r ∧ r < 74) ∨ 122 ≤ r) → I r = I0 r
def RF (I0 I : Nat → Nat → Int32) (a : aS) : Prop := RepR I a ∧ (∀ r, (r < 122 ∨ 154 ≤ r) → I r = I0 r) ∧ ∀ i, ¬ i = 18 → I 122 i = I0 122 i
/-- a part of a run: its value, and what its memory holds then -/
def cOk {τ : Type} (x : Option (τ × eMem)) (I0 : Nat → Nat → Int32) (J : Nat → Nat → Int64) (t : τ) (a : aS) : Prop :=
  ∃ I, x = some (t, (I, J)) ∧ CF I0 I a
def rOk {τ : Type} (x : Option (τ × eMem)) (I0 : Nat → Nat → Int32) (J : Nat → Nat → Int64) (t : τ) (a : aS) : Prop :=
  ∃ I, x = some (t, (I, J)) ∧ RF I0 I a
section EPB
variable {τ ρ : Type} {I I0 : Nat → Nat → Int32} {J : Nat → Nat → Int64} {t : τ} {t2 : ρ} {a a1 a2 : aS} {x : Option (τ × eMem)} {G : τ × eMem → Option (ρ × eMem)}
theorem c_bind (h : cOk x I0 J t a1) (H : ∀ I, CF I0 I a1 → cOk (G (t, (I, J))) I0 J t2 a2) : cOk (Option.bind x G) I0 J t2 a2 := by
  obtain ⟨I1, h1, h2⟩ := h
  rw [h1]
  exact H I1 h2
theorem r_bind (h : rOk x I0 J t a1) (H : ∀ I, RF I0 I a1 → rOk (G (t, (I, J))) I0 J t2 a2) : rOk (Option.bind x G) I0 J t2 a2 := by
  obtain ⟨I1, h1, h2⟩ := h
  rw [h1]
  exact H I1 h2
theorem c_ret (h : CF I0 I a) : cOk (some (t, (I, J))) I0 J t a := ⟨I, rfl, h⟩
theorem r_ret (h : RF I0 I a) : rOk (some (t, (I, J))) I0 J t a := ⟨I, rfl, h⟩
theorem r_bind0 (h : x = some (t, (I, J))) (H : rOk (G (t, (I, J))) I0 J t2 a2) : rOk (Option.bind x G) I0 J t2 a2 := by
  rw [h]
  exact H
theorem c_bind0 (h : x = some (t, (I, J))) (H : cOk (G (t, (I, J))) I0 J t2 a2) : cOk (Option.bind x G) I0 J t2 a2 := by
  rw [h]
  exact H
theorem r_eqa (h : rOk x I0 J t a1) (e : a1 = a2) : rOk x I0 J t a2 := e ▸ h
theorem c_eqa (h : cOk x I0 J t a1) (e : a1 = a2) : cOk x I0 J t a2 := e ▸ h
end EPB
section EPW
variable {I I0 : Nat → Nat → Int32} {J : Nat → Nat → Int64} {a b : aS} {r i l q c k : Nat} {v : Int32} {m : aM}
theorem up_fr {α : Type} {f : Nat → Nat → α} {r k r' : Nat} {x : α} (h : ¬ r' = r) : eup f r k x r' = f r' := funext fun _ => up_r h
theorem up_self {α : Type} {f : Nat → Nat → α} {r k : Nat} {x : α} (h : f r k = x) : eup f r k x = f := by
  funext r' k'
  unfold eup
  by_cases q : r' = r ∧ k' = k
  · rw [if_pos q, q.1, q.2, h]
  · rw [if_neg q]
theorem R_get (h : RF I0 I a) (hs : aSc r i) : I r i = a.1 r i := h.1.1 r i hs
theorem R_w (h : RepR I a) (hs : aSc r i) : RepR (eup I r i v) (aW a r i v) := by
  refine ⟨fun r' i' hs' => ?_, fun q hq => ?_, fun l hl => ?_⟩
  · show eup I r i v r' i' = eup a.1 r i v r' i'
    unfold eup
    by_cases g : r' = r ∧ i' = i
    · rw [if_pos g, if_pos g]
    · rw [if_neg g, if_neg g]
      exact h.1 r' i' hs'
  · have h2 := h.2.1 q hq
    have e1 : eup I r i v 132 = I 132 := up_fr (by unfold aSc at hs; omega)
    have e2 : eup I r i v 133 = I 133 := up_fr (by unfold aSc at hs; omega)
    have e3 : eup I r i v 134 = I 134 := up_fr (by unfold aSc at hs; omega)
    unfold RqOk at h2 ⊢
    rw [e1, e2, e3]
    exact h2
  · have h2 := h.2.2 l hl
    have e1 : eup I r i v 130 = I 130 := up_fr (by unfold aSc at hs; omega)
    have e2 : eup I r i v 131 = I 131 := up_fr (by unfold aSc at hs; omega)
    unfold RoOk at h2 ⊢
    rw [e1, e2]
    exact h2
/-- a write to a plain cell -/
theorem RF_w (h : RF I0 I a) (hs : aSc r i) : RF I0 (eup I r i v) (aW a r i v) := by
  refine ⟨R_w h.1 hs, fun r' hr => ?_, fun i' hi => ?_⟩
  · rw [up_fr (by unfold aSc at hs; omega)]
    exact h.2.1 r' hr
  · unfold eup
    rw [if_neg (by unfold aSc at hs; omega)]
    exact h.2.2 i' hi
theorem RF_c0 (h : RF I0 I a) : RF I0 (eup I r i (I r i + 0)) a := by
  rw [up_self (Int32.add_zero _).symm]
  exact h
theorem RF_c1 (h : RF I0 I a) : RF I0 (eup I 153 k (I 153 k + 1)) (aC a k) := by
  have hs : aSc 153 k := Or.inl ⟨by decide, by decide, by decide⟩
  rw [R_get h hs]
  exact RF_w h hs
/-- a message at a queue's end -/
theorem RF_push (h : RF I0 I a) (hq : q < 15) {e : Nat} (he : e < 128) (hp : ∀ B, B e = gRm m → (∀ i, i < 128 → i ≠ e → B i = I 134 (128 * q + i)) → Rng B (I 132 q) (I 133 q + 1) 128 gRm (a.2 q ++ [m])) :
    RF I0 (eup (eup I 134 (128 * q + e) (gRm m)) 133 q (I 133 q + 1)) (aPush a q m) := by
  refine ⟨⟨fun r i hs => ?_, fun q' hq' => ?_, fun l hl => ?_⟩, fun r hr => ?_, fun i hi => ?_⟩
  · rw [up_r (by unfold aSc at hs; omega), up_r (by unfold aSc at hs; omega)]
    exact h.1.1 r i hs
  · have e1 : eup (eup I 134 (128 * q + e) (gRm m)) 133 q (I 133 q + 1) 132 = I 132 := (up_fr (by decide)).trans (up_fr (by decide))
    have e2 : eup (eup I 134 (128 * q + e) (gRm m)) 133 q (I 133 q + 1) 134 = eup I 134 (128 * q + e) (gRm m) 134 := up_fr (by decide)
    unfold RqOk
    rw [e1, e2]
    by_cases g : q' = q
    · subst g
      rw [up_eq]
      show Rng _ _ _ _ _ (eupA a.2 q' _ q')
      rw [uA_eq]
      refine hp _ up_eq (fun i hi hn => ?_)
      exact up_k (by omega)
    · rw [up_k g, show eup I 134 (128 * q + e) (gRm m) 133 q' = I 133 q' from up_r (by decide)]
      show Rng _ _ _ _ _ (eupA a.2 q _ q')
      rw [uA_ne g]
      refine Rng_congr (h.1.2.1 q' hq') (fun i hi => ?_)
      refine up_k ?_
      rcases Nat.lt_or_gt_of_ne g with g | g <;> omega
  · unfold RoOk
    rw [up_fr (by decide), up_fr (by decide), up_fr (by decide), up_fr (by decide)]
    show I 130 l = Int32.ofNat (eupA a.2 q _ (15 + l)).length ∧ (eupA a.2 q _ (15 + l)).length ≤ 8 ∧ ∀ k (h : k < (eupA a.2 q _ (15 + l)).length), I 131 (8 * l + k) = gRm (eupA a.2 q _ (15 + l))[k]
    have e : eupA a.2 q (a.2 q ++ [m]) (15 + l) = a.2 (15 + l) := uA_ne (by omega)
    rw [e]
    exact h.1.2.2 l hl
  · rw [up_fr (by omega), up_fr (by omega)]
    exact h.2.1 r hr
  · rw [up_r (by omega), up_r (by omega)]
    exact h.2.2 i hi
end EPW
