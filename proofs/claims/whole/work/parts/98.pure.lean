/-! the next order -/
def oU (a b c : Nat) : List Nat := (List.range 12).filter (fun x => decide (x < 12) && decide (x % 4 < (if x / 4 = 0 then a else if x / 4 = 1 then b else c)))
def oSw (L : List Nat) (i j : Nat) : List Nat := (L.set i (L.getD j 0)).set j (L.getD i 0)
def oRv : Nat → List Nat → Nat → Nat → List Nat
  | 0, L, _, _ => L
  | n + 1, L, i, j => if i < j then oRv n (oSw L i j) (i + 1) (j - 1) else L
def oTu (L : List Nat) : Nat → Option Nat
  | 0 => none
  | k + 1 => if L.getD (k + 1) 0 < L.getD k 0 then oTu L k else some k
def oAb (L : List Nat) (t : Nat) : Nat → Nat
  | 0 => 0
  | k + 1 => if t + 1 < k + 1 then (if L.getD (k + 1) 0 < L.getD t 0 then oAb L t k else k + 1) else k + 1
def oNx (L : List Nat) : Option (List Nat) :=
  match oTu L (L.length - 1) with
  | none => none
  | some t => some (oRv L.length (oSw L t (oAb L t (L.length - 1))) (t + 1) (L.length - 1))
def oCk : List (List Nat) → Bool
  | [] => false
  | [L] => decide (oNx L = none)
  | L :: M :: R => decide (oNx L = some M) && oCk (M :: R)
def oOk (a b c : Nat) : Bool := oCk (oP (oU a b c).length (oU a b c)) && decide ((oP (oU a b c).length (oU a b c)).length ≤ 720)
theorem o_all : ∀ a, a < 5 → ∀ b, b < 5 → ∀ c, c < 5 → a + b + c ≤ 6 → oOk a b c = true := by decide +kernel
theorem o_hd : ∀ n (L : List Nat), L.length = n → ∃ R, oP n L = L :: R
  | 0, L, h => by
    have : L = [] := List.length_eq_zero_iff.1 h
    subst this
    exact ⟨[], rfl⟩
  | n + 1, [], h => absurd h (by simp)
  | n + 1, x :: L, h => by
    rw [List.length_cons] at h
    obtain ⟨R, e⟩ := o_hd n L (by omega)
    unfold oP
    rw [List.flatMap_cons, List.erase_cons_head, e, List.map_cons, List.cons_append]
    exact ⟨_, rfl⟩
theorem o_ck {P : aP} (h : gWf P) : oCk (oP (gTo P) (gUl P)) = true ∧ (oP (gTo P) (gUl P)).length ≤ 720 := by
  have e : gUl P = oU (P.1 0) (P.1 1) (P.1 2) := by
    unfold gUl oU
    refine List.filter_congr fun x hx => ?_
    rw [List.mem_range] at hx
    unfold gU
    congr 3
    have : x / 4 = 0 ∨ x / 4 = 1 ∨ x / 4 = 2 := by omega
    rcases this with q | q | q
    · rw [q]; rfl
    · rw [q]; rfl
    · rw [q]; rfl
  have h0 := h.1 0 (by decide)
  have h1 := h.1 1 (by decide)
  have h2 := h.1 2 (by decide)
  have h3 := h.2.1
  have key := o_all (P.1 0) (by omega) (P.1 1) (by omega) (P.1 2) (by omega) h3
  unfold oOk at key
  rw [Bool.and_eq_true, decide_eq_true_iff, ← e, gUl_len h] at key
  exact key
theorem gLi_len {P : aP} {m : Nat} {l : List Nat} (h : gWf P) (hs : gSo l) (hl : ∀ k, k ∈ l → gFi P m k) : l.length ≤ 720 := by
  have h1 := len_sub l ((oP (gTo P) (gUl P)).map (gTl P gS0)) (so_nd hs) (fun x hx => by
    obtain ⟨L, g1, _, g3⟩ := (gFi_ord h).1 (hl x hx)
    exact List.mem_map.2 ⟨L, g1, g3⟩)
  rw [List.length_map] at h1
  have := (o_ck h).2
  omega
/-- room for one more -/
theorem gLi_lt {P : aP} {m k : Nat} {l : List Nat} (h : gWf P) (hs : gSo l) (hl : ∀ k, k ∈ l → gFi P m k) (hk : gFi P m k) (hn : ¬ k ∈ l) : l.length < 720 := by
  have h1 := len_sub (k :: l) ((oP (gTo P) (gUl P)).map (gTl P gS0)) (List.nodup_cons.2 ⟨hn, so_nd hs⟩) (fun x hx => by
    have hx' : gFi P m x := by
      rcases List.mem_cons.1 hx with q | q
      · exact q ▸ hk
      · exact hl x q
    obtain ⟨L, g1, _, g3⟩ := (gFi_ord h).1 hx'
    exact List.mem_map.2 ⟨L, g1, g3⟩)
  rw [List.length_map, List.length_cons] at h1
  have := (o_ck h).2
  omega
