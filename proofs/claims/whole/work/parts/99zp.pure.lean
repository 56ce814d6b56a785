/-! the law's start -/
section EPW
def P0 : aP := (fun _ => 0, fun _ => 0, fun _ => 0, fun _ => 0)
theorem s_63 : ∀ t, t < 3 → sg0.1 63 t = 0 := by decide +kernel
theorem s_154 : ∀ t, t < 3 → sg0.1 154 t = 0 := by decide +kernel
theorem s_64 : sg0.1 64 2 = 0 := by decide +kernel
theorem s_66 : sg0.1 66 2 = 0 := by decide +kernel
theorem gU_P0 (x : Nat) : gU P0 x = false := by
  rw [← Bool.not_eq_true, gU_iff]
  exact fun h => absurd h.2 (Nat.not_lt_zero _)
theorem gWf_P0 : gWf P0 := ⟨fun t _ => Nat.zero_le _, by show 0 + 0 + 0 ≤ 6; decide, fun x hx => by rw [gU_P0] at hx; cases hx⟩
theorem LInv_0 : LInv 0 sg0 :=
  ⟨a0, P0, RepC_0, RepR_0, ⟨⟨gWf_P0, s_63, fun x hx => by rw [gU_P0] at hx; cases hx⟩, Or.inl s_64, Or.inl s_66⟩, ⟨gWf_P0, s_154, fun x hx => by rw [gU_P0] at hx; cases hx⟩, Inv_0, uU_0⟩
theorem law_all {N : Nat} {xs : Nat → Int32} (hN : N ≤ 2560) : ∃ σ', f_law N xs 5000 0 sg0 = some (1, σ') :=
  law_run hN (N / 5) 0 5000 0 sg0 (by omega) (by omega) LInv_0 (by omega)
end EPW
