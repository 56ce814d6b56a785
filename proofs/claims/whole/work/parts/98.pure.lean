/-! the next order -/
def oU (a b c : Nat) : List Nat := (List.range 12).filter (fun x => decide (x < 12) && decide (x % 4 < (if x / 4 = 0 then a else if x / 4 = 1 then b else c)))
def oSw (L : List Nat) (i j : Nat) : List Nat := (L.set i (L.getD j 0)).set j (L.getD i 0)
def oRv : Nat → List Nat → Nat → Nat → List Nat
  | 0, L, _, _ => L
  | n + 1, L, i, j => if i < j then oRv n (oSw L i j) (i + 1) (j - 1) else L
def oTu (L : List Nat) : Nat → Option Nat
  | 0 => none
  | k + 1 => if L.getD (k + 1) 0 < L.getD k 0 then oTu L k else some k
def oAb (L : List Nat) (t : Nat) : Nat → Nat
  | 0 => 0
  | k + 1 => if t + 1 < k + 1 then (if L.getD (k + 1) 0 < L.getD t 0 then oAb L t k else k + 1) else k + 1
def oNx (L : List Nat) : Option (List Nat) :=
  match oTu L (L.length - 1) with
  | none => none
  | some t => some (oRv L.length (oSw L t (oAb L t (L.length - 1))) (t + 1) (L.length - 1))
def oCk : List (List Nat) → Bool
  | [] => false
  | [L] => decide (oNx L = none)
  | L :: M :: R => decide (oNx L = some M) && oCk (M :: R)
def oOk (a b c : Nat) : Bool := oCk (oP (oU a b c).length (oU a b c)) && decide ((oP (oU a b c).length (oU a b c)).length ≤ 720)
theorem o_024 : oOk 0 2 4 = true := by decide +kernel
theorem o_033 : oOk 0 3 3 = true := by decide +kernel
theorem o_042 : oOk 0 4 2 = true := by decide +kernel
theorem o_114 : oOk 1 1 4 = true := by decide +kernel
theorem o_123 : oOk 1 2 3 = true := by decide +kernel
theorem o_132 : oOk 1 3 2 = true := by decide +kernel
theorem o_141 : oOk 1 4 1 = true := by decide +kernel
theorem o_204 : oOk 2 0 4 = true := by decide +kernel
theorem o_213 : oOk 2 1 3 = true := by decide +kernel
theorem o_222 : oOk 2 2 2 = true := by decide +kernel
theorem o_231 : oOk 2 3 1 = true := by decide +kernel
theorem o_240 : oOk 2 4 0 = true := by decide +kernel
theorem o_303 : oOk 3 0 3 = true := by decide +kernel
theorem o_312 : oOk 3 1 2 = true := by decide +kernel
theorem o_321 : oOk 3 2 1 = true := by decide +kernel
theorem o_330 : oOk 3 3 0 = true := by decide +kernel
theorem o_402 : oOk 4 0 2 = true := by decide +kernel
theorem o_411 : oOk 4 1 1 = true := by decide +kernel
theorem o_420 : oOk 4 2 0 = true := by decide +kernel
theorem o_low : ∀ a, a < 5 → ∀ b, b < 5 → ∀ c, c < 5 → a + b + c ≤ 5 → oOk a b c = true := by decide +kernel
theorem o_six : ∀ a, a < 5 → ∀ b, b < 5 → ∀ c, c < 5 → a + b + c = 6 → List.contains [(0, 2, 4), (0, 3, 3), (0, 4, 2), (1, 1, 4), (1, 2, 3), (1, 3, 2), (1, 4, 1), (2, 0, 4), (2, 1, 3), (2, 2, 2), (2, 3, 1), (2, 4, 0), (3, 0, 3), (3, 1, 2), (3, 2, 1), (3, 3, 0), (4, 0, 2), (4, 1, 1), (4, 2, 0)] (a, b, c) = true := by decide +kernel
theorem o_all (a : Nat) (ha : a < 5) (b : Nat) (hb : b < 5) (c : Nat) (hc : c < 5) (h : a + b + c ≤ 6) : oOk a b c = true := by
  by_cases q : a + b + c ≤ 5
  · exact o_low a ha b hb c hc q
  · have g := o_six a ha b hb c hc (by omega)
    have key : ∀ t, t ∈ [(0, 2, 4), (0, 3, 3), (0, 4, 2), (1, 1, 4), (1, 2, 3), (1, 3, 2), (1, 4, 1), (2, 0, 4), (2, 1, 3), (2, 2, 2), (2, 3, 1), (2, 4, 0), (3, 0, 3), (3, 1, 2), (3, 2, 1), (3, 3, 0), (4, 0, 2), (4, 1, 1), (4, 2, 0)] → oOk t.1 t.2.1 t.2.2 = true := by
      intro t ht
      simp only [List.mem_cons, List.not_mem_nil, or_false] at ht
      rcases ht with e | e | e | e | e | e | e | e | e | e | e | e | e | e | e | e | e | e | e
      · subst e; exact o_024
      · subst e; exact o_033
      · subst e; exact o_042
      · subst e; exact o_114
      · subst e; exact o_123
      · subst e; exact o_132
      · subst e; exact o_141
      · subst e; exact o_204
      · subst e; exact o_213
      · subst e; exact o_222
      · subst e; exact o_231
      · subst e; exact o_240
      · subst e; exact o_303
      · subst e; exact o_312
      · subst e; exact o_321
      · subst e; exact o_330
      · subst e; exact o_402
      · subst e; exact o_411
      · subst e; exact o_420
    exact key _ (List.contains_iff_mem.1 g)
theorem o_hd : ∀ n (L : List Nat), L.length = n → ∃ R, oP n L = L :: R
  | 0, L, h => by
    have : L = [] := List.length_eq_zero_iff.1 h
    subst this
    exact ⟨[], rfl⟩
  | n + 1, [], h => absurd h (by simp)
  | n + 1, x :: L, h => by
    rw [List.length_cons] at h
    obtain ⟨R, e⟩ := o_hd n L (by omega)
    unfold oP
    rw [List.flatMap_cons, List.erase_cons_head, e, List.map_cons, List.cons_append]
    exact ⟨_, rfl⟩
theorem o_ck {P : aP} (h : gWf P) : oCk (oP (gTo P) (gUl P)) = true ∧ (oP (gTo P) (gUl P)).length ≤ 720 := by
  have e : gUl P = oU (P.1 0) (P.1 1) (P.1 2) := by
    unfold gUl oU
    refine List.filter_congr fun x hx => ?_
    rw [List.mem_range] at hx
    unfold gU
    congr 3
    have : x / 4 = 0 ∨ x / 4 = 1 ∨ x / 4 = 2 := by omega
    rcases this with q | q | q
    · rw [q]; rfl
    · rw [q]; rfl
    · rw [q]; rfl
  have h0 := h.1 0 (by decide)
  have h1 := h.1 1 (by decide)
  have h2 := h.1 2 (by decide)
  have h3 := h.2.1
  have key := o_all (P.1 0) (by omega) (P.1 1) (by omega) (P.1 2) (by omega) h3
  unfold oOk at key
  rw [Bool.and_eq_true, decide_eq_true_iff, ← e, gUl_len h] at key
  exact key
theorem gLi_len {P : aP} {m : Nat} {l : List Nat} (h : gWf P) (hs : gSo l) (hl : ∀ k, k ∈ l → gFi P m k) : l.length ≤ 720 := by
  have h1 := len_sub l ((oP (gTo P) (gUl P)).map (gTl P gS0)) (so_nd hs) (fun x hx => by
    obtain ⟨L, g1, _, g3⟩ := (gFi_ord h).1 (hl x hx)
    exact List.mem_map.2 ⟨L, g1, g3⟩)
  rw [List.length_map] at h1
  have := (o_ck h).2
  omega
/-- room for one more -/
theorem gLi_lt {P : aP} {m k : Nat} {l : List Nat} (h : gWf P) (hs : gSo l) (hl : ∀ k, k ∈ l → gFi P m k) (hk : gFi P m k) (hn : ¬ k ∈ l) : l.length < 720 := by
  have h1 := len_sub (k :: l) ((oP (gTo P) (gUl P)).map (gTl P gS0)) (List.nodup_cons.2 ⟨hn, so_nd hs⟩) (fun x hx => by
    have hx' : gFi P m x := by
      rcases List.mem_cons.1 hx with q | q
      · exact q ▸ hk
      · exact hl x q
    obtain ⟨L, g1, _, g3⟩ := (gFi_ord h).1 hx'
    exact List.mem_map.2 ⟨L, g1, g3⟩)
  rw [List.length_map, List.length_cons] at h1
  have := (o_ck h).2
  omega
