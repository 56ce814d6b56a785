/-! the reference: the whole search -/
/-- how much is left of a pile -/
def pt (P : aP) : List Int64 → Nat
  | [] => 0
  | x :: L => 7 ^ rkA P x + pt P L
section EPT
variable {P : aP} {I I' I0 : Nat → Nat → Int32} {J J' J0 : Nat → Nat → Int64} {m r y z k n p t s N v w i j : Nat} {x x' x1 c : Int64} {L C D : List Int64} {G : Int64 → Prop} {S S' : aT} {X : Int32} {σ : eMem} {l l' : List Nat}
theorem pt_app : ∀ L, pt P (L ++ D) = pt P L + pt P D
  | [] => (Nat.zero_add _).symm
  | x :: L => by
    show 7 ^ rkA P x + pt P (L ++ D) = 7 ^ rkA P x + pt P L + pt P D
    rw [pt_app L]
    omega
theorem pt_le : ∀ D : List Int64, (∀ d, d ∈ D → rkA P d + 1 ≤ n + 1) → pt P D ≤ D.length * 7 ^ n
  | [], _ => Nat.zero_le _
  | x :: L, h => by
    have h1 := pt_le L (fun d hd => h d (List.mem_cons_of_mem _ hd))
    have h2 : 7 ^ rkA P x ≤ 7 ^ n := Nat.pow_le_pow_right (by decide) (by have := h x List.mem_cons_self; omega)
    show 7 ^ rkA P x + pt P L ≤ (L.length + 1) * 7 ^ n
    rw [Nat.add_mul]
    omega
/-- what the search gives -/
def Fnd (P : aP) (m : Nat) (I : Nat → Nat → Int32) (J : Nat → Nat → Int64) (z : Option (Int32 × eMem)) : Prop :=
  ∃ I' J' l, z = some (Int32.ofNat l.length, (I', J')) ∧ Lst I' 160 122 42 l ∧ gLi P m l ∧ PgR I' P ∧ (∀ r, ¬ r = 122 → ¬ r = 160 → I' r = I r) ∧ (∀ i, ¬ i = 38 → ¬ i = 40 → ¬ i = 42 → I' 122 i = I 122 i) ∧ ∀ r, ¬ r = 158 → ¬ r = 159 → J' r = J r
theorem Fnd_tr {z : Option (Int32 × eMem)} (h : Fnd P m I0 J0 z) (e1 : ∀ r, ¬ r = 122 → ¬ r = 160 → I0 r = I r) (e2 : ∀ i, ¬ i = 38 → ¬ i = 40 → ¬ i = 42 → I0 122 i = I 122 i) (e3 : ∀ r, ¬ r = 158 → ¬ r = 159 → J0 r = J r) : Fnd P m I J z := by
  obtain ⟨I', J', l, a1, a2, a3, a4, a5, a6, a7⟩ := h
  exact ⟨I', J', l, a1, a2, a3, a4, fun r h1 h2 => (a5 r h1 h2).trans (e1 r h1 h2), fun i h1 h2 h3 => (a6 i h1 h2 h3).trans (e2 i h1 h2 h3), fun r h1 h2 => (a7 r h1 h2).trans (e3 r h1 h2)⟩
theorem getD_l (h : i < L.length) : (L ++ D).getD i 0 = L.getD i 0 := by
  rw [List.getD_eq_getElem?_getD, List.getD_eq_getElem?_getD, List.getElem?_append_left h]
theorem getD_r (h : ¬ i < L.length) (h2 : i < (L ++ D).length) : (L ++ D).getD i 0 ∈ D := by
  rw [List.length_append] at h2
  rw [List.getD_eq_getElem?_getD, List.getElem?_append_right (by omega), List.getElem?_eq_getElem (by omega)]
  exact List.getElem_mem _
theorem rp_loop (hm : m < 2) : ∀ n N L (I : Nat → Nat → Int32) (J : Nat → Nat → Int64) (G : Int64 → Prop) l, PgR I P → Wl I J G L → (∀ i, i < L.length → i + 6 * rkA P (L.getD i 0) ≤ 72) → (∀ g, G g → Gd P m g) → (∀ g, g ∈ L → G g) → (∀ g, G g → g ∈ L ∨ Prc P m G l g) →
    Lst I 160 122 42 l → gSo l → (∀ k, k ∈ l → gFi P m k) → G 0 → pt P L ≤ n → 6 * n + 1 ≤ N → Fnd P m I J (f_X12_goesThrough_L42 N (.inl (122, if m = 1 then 1 else 0)) (I, J)) := by
  intro n
  induction n with
  | zero =>
    intro N L I J G l h hw hp hG hLG hd hl hs hf h0 hpt hN
    obtain ⟨N, rfl⟩ := Nat.exists_eq_add_of_le' hN
    have eL : L = [] := by
      cases L with
      | nil => rfl
      | cons x L =>
        have h1 : 7 ^ rkA P x + pt P L ≤ 0 := hpt
        have h2 : 0 < 7 ^ rkA P x := Nat.pow_pos (by decide)
        omega
    subst eL
    refine ⟨I, J, l, ?_, hl, ⟨hs, fun k => ⟨hf k, fun hk => ?_⟩⟩, h, fun _ _ _ => rfl, fun _ _ _ _ => rfl, fun _ _ _ => rfl⟩
    · have e0 : I 122 38 = 0 := hw.1
      rw [show N + (6 * 0 + 1) = N + 1 by omega, f_X12_goesThrough_L42]
      simp only [eLt, Option.bind_some, ↓reduceIte, K_122, R_122_33, R_122_37, R_122_39, R_122_41, K_158, K_159, K_160, true_and, and_true, eB, decide_true, decide_false, Bool.or_true, Bool.true_or, not_true_eq_false, not_false_eq_true, e0, hl.1, show (0 : Int32) ≤ 0 by decide]
    · have key := Prc_all h.1 (fun g hg => (hd g hg).resolve_left (fun q => (by cases q))) (rkA P 0) 0 h0 (Nat.le_refl _) gS0 (gTo P) k RlA_0 (gBd_0 h.1)
      exact key hk
  | succ n ih =>
    intro N L I J G l h hw hp hG hLG hd hl hs hf h0 hpt hN
    obtain ⟨N, rfl⟩ := Nat.exists_eq_add_of_le' hN
    have hn720 := gLi_len h.1 hs hf
    have hlb : ∀ y, y ∈ l → y < 2147483648 := fun y hy => by
      have := gOut_le h.1 _ _ (gBd_0 h.1) (hf y hy)
      omega
    rcases List.eq_nil_or_concat L with eL | ⟨L0, x, eL⟩
    · subst eL
      refine Fnd_tr (ih _ [] I J G l h hw hp hG hLG hd hl hs hf h0 (Nat.zero_le _) (by omega)) (fun _ _ _ => rfl) (fun _ _ _ _ => rfl) (fun _ _ _ => rfl)
    · rw [List.concat_eq_append] at eL
      subst eL
      have hlen : (L0 ++ [x]).length = L0.length + 1 := by rw [List.length_append]; rfl
      have hx : (L0 ++ [x]).getD L0.length 0 = x := List.mem_singleton.1 (getD_r (Nat.lt_irrefl _) (by omega))
      have hpx := hp L0.length (by omega)
      rw [hx] at hpx
      have hGx := hLG x (List.mem_append.2 (Or.inr List.mem_cons_self))
      obtain ⟨S, r, R, B, hk⟩ := hG x hGx
      obtain ⟨I1, hI1⟩ : ∃ I1, I1 = eup I 122 38 (Int32.ofNat L0.length) := ⟨_, rfl⟩
      have f1 : ∀ r, ¬ r = 122 → I1 r = I r := fun r hr => by rw [hI1]; exact up_fr hr
      have f2 : ∀ i, ¬ i = 38 → I1 122 i = I 122 i := fun i hi => by rw [hI1]; exact up_k hi
      have h1 : PgR I1 P := PgR_fr h (fun r a b => f1 r (by omega))
      have hl1 : Lst I1 160 122 42 l := ⟨by rw [f2 42 (by decide)]; exact hl.1, fun i hi => by rw [f1 160 (by decide)]; exact hl.2 i hi⟩
      have hw1 : Wl I1 J G L0 := by
        refine ⟨by rw [hI1, up_eq], fun i hi => ?_, ?_, hw.2.2.2⟩
        · rw [hw.2.1 i (by omega)]
          exact getD_l hi
        · obtain ⟨c, c1, c2, c3⟩ := hw.2.2.1
          exact ⟨c, c1, by rw [f2 40 (by decide)]; exact c2, c3⟩
      have hp1 : ∀ i, i < L0.length → i + 6 * rkA P (L0.getD i 0) ≤ 72 := fun i hi => by
        have := hp i (by omega)
        rw [getD_l hi] at this
        exact this
      have ht1 : pt P (L0 ++ [x]) = pt P L0 + (7 ^ rkA P x + 0) := pt_app L0
      have ht2 : 0 < 7 ^ rkA P x := Nat.pow_pos (by decide)
      rw [ht1] at hpt
      have e38 : I 122 38 = Int32.ofNat (L0.length + 1) := by rw [hw.1, hlen]
      have ele : (Int32.ofNat (L0.length + 1) ≤ 0) = False := (i_le (m := 0) (by omega) (by decide)).trans (eq_false (by omega))
      have esb : Int32.ofNat (L0.length + 1) - 1 = Int32.ofNat L0.length := i_sb (n := L0.length + 1) (m := 1) (by omega)
      have etn : (Int32.ofNat L0.length).toNatClampNeg = L0.length := i_tn (by omega)
      have eix' : eix (Int32.ofNat L0.length) 256 = true := i_ix (by omega) (by decide)
      have e38' : I1 122 38 = Int32.ofNat L0.length := by rw [hI1, up_eq]
      have ej : J 158 L0.length = x := by rw [hw.2.1 _ (by omega), hx]
      have hov : f_X12_isOverAll 122 x (if m = 1 then 1 else 0) (I1, J) = some (if ovA P m x 3 = true then 1 else 0, (I1, J)) := rp_ov (J := J) h1 hm R.1 3 0 1000000 (by decide) (by decide)
      rw [show N + (6 * (n + 1) + 1) = N + 6 * n + 6 + 1 by omega, f_X12_goesThrough_L42]
      simp only [eLt, Option.bind_some, ↓reduceIte, K_122, R_122_33, R_122_37, R_122_39, R_122_41, K_158, K_159, K_160, true_and, and_true, eB, decide_true, decide_false, Bool.or_true, Bool.true_or, not_true_eq_false, not_false_eq_true, e38, ele, esb, ← hI1, e38', etn, eix', ej, hov]
      by_cases c : ovA P m x 3 = true
      · have er : r = 0 := (ov_0 h.1 R B).1 c
        subst er
        have hfS : gFi P m S.2.2 := hk _ (gOut_0.2 rfl)
        have hb := B.2.2.1
        obtain ⟨I2, l', b1, b2, b3, b4, b5, b6⟩ := rp_out (J := J) h1 R (by omega) hl1 hs hlb hn720 (fun g => gLi_lt h.1 hs hf hfS g)
        rw [if_neg (show ¬ (if ovA P m x 3 = true then (1 : Int32) else 0) = 0 by rw [if_pos c]; decide), b1, Option.bind_some]
        rw [show N + 6 * n + 6 = N + 6 * n + 5 + 1 by omega, f_X12_goesThrough_L42]
        have h2 : PgR I2 P := PgR_fr h1 (fun r a b => b6 r (by omega) (by omega))
        have hw2 : Wl I2 J G L0 := ⟨by rw [b5 38 (by decide)]; exact hw1.1, hw1.2.1, by rw [b5 40 (by decide)]; exact hw1.2.2.1, hw1.2.2.2⟩
        refine Fnd_tr (ih _ L0 I2 J G l' h2 hw2 hp1 hG (fun g hg => hLG g (List.mem_append.2 (Or.inl hg))) (fun g hg => ?_) b2 b3 (fun k hk => ?_) h0 (by omega) (by omega)) (fun r r1 r2 => (b6 r r2 r1).trans (f1 r r1)) (fun i i1 i2 i3 => (b5 i i3).trans (f2 i i1)) (fun _ _ _ => rfl)
        · rcases hd g hg with q | q
          · rcases List.mem_append.1 q with q | q
            · exact Or.inl q
            · right
              have eg : g = x := List.mem_singleton.1 q
              subst eg
              refine ⟨fun S' R' _ => (b4 _).2 (Or.inr ?_), fun S' r' y R' B' hok => ?_⟩
              · rw [← R'.2.2.2.2.2.2, R.2.2.2.2.2.2]
              · obtain ⟨s, e, _⟩ := gBd_s h.1 B' hok
                have := (ov_0 h.1 R' B').1 c
                omega
          · exact Or.inr (Prc_w q (fun _ h => h) (fun k hk => (b4 k).2 (Or.inl hk)))
        · rcases (b4 k).1 hk with q | q
          · exact hf k q
          · rw [q]
            exact hfS
      · obtain ⟨C, c1, c2, c3, I2, J2, D, d1, d2, d3, d4, d5, d6⟩ := rp_three hm h1 R B hw1 (by omega)
        rw [if_pos (show (if ovA P m x 3 = true then (1 : Int32) else 0) = 0 by rw [if_neg c])]
        rw [show N + 6 * n + 6 = N + 6 * n + 1 + 5 by omega, d1]
        have h2 : PgR I2 P := PgR_fr h1 (fun r a b => d6.1 r (by omega))
        have hl2 : Lst I2 160 122 42 l := ⟨by rw [d6.2.1 42 (by decide) (by decide)]; exact hl1.1, fun i hi => by rw [d6.1 160 (by decide)]; exact hl1.2 i hi⟩
        have hr1 : 1 ≤ rkA P x ∨ D = [] := by
          cases D with
          | nil => exact Or.inr rfl
          | cons d D =>
            left
            have := c2.1 d (d4 d List.mem_cons_self)
            omega
        refine Fnd_tr (ih _ (L0 ++ D) I2 J2 _ l h2 d2 (fun i hi => ?_) (fun g hg => ?_) (fun g hg => ?_) (fun g hg => ?_) hl2 hs hf (Or.inl h0) ?_ (by omega)) (fun r r1 r2 => (d6.1 r r1).trans (f1 r r1)) (fun i i1 i2 i3 => (d6.2.1 i i1 i2).trans (f2 i i1)) (fun r r1 r2 => d6.2.2 r r1 r2)
        · by_cases q : i < L0.length
          · rw [getD_l q]
            exact hp1 i q
          · have hm := getD_r q hi
            have := c2.1 _ (d4 _ hm)
            rw [List.length_append] at hi
            omega
        · rcases hg with q | q
          · exact hG g q
          · exact Gd_c h.1 ⟨S, r, R, B, hk⟩ c2 q
        · rcases List.mem_append.1 hg with q | q
          · exact Or.inl (hLG g (List.mem_append.2 (Or.inl q)))
          · exact Or.inr (d4 g q)
        · have old : G g → g ∈ L0 ++ D ∨ Prc P m (fun g => G g ∨ g ∈ C) l g := by
            intro hg
            rcases hd g hg with q | q
            · rcases List.mem_append.1 q with q | q
              · exact Or.inl (List.mem_append.2 (Or.inl q))
              · right
                have eg : g = x := List.mem_singleton.1 q
                subst eg
                refine ⟨fun S' R' B' => absurd ((ov_0 h.1 R' B').2 rfl) c, fun S' r' y R' B' hok => ?_⟩
                obtain ⟨c', g1, g2⟩ := c3 S' r' y R' B' hok
                exact ⟨c', Or.inr g1, c2.1 c' g1, g2⟩
            · exact Or.inr (Prc_w q (fun _ h => Or.inl h) (fun k hk => hk))
          rcases hg with q | q
          · exact old q
          · rcases d5 g q with a | a
            · exact old a
            · exact Or.inl (List.mem_append.2 (Or.inr a))
        · rw [pt_app]
          rcases hr1 with q | q
          · obtain ⟨ρ, hρ⟩ : ∃ ρ, rkA P x = ρ + 1 := ⟨rkA P x - 1, by omega⟩
            have g1 := pt_le (P := P) (n := ρ) D (fun d hd => by
              have := c2.1 d (d4 d hd)
              omega)
            have g2 : D.length * 7 ^ ρ ≤ 6 * 7 ^ ρ := Nat.mul_le_mul_right _ (by omega)
            have g3 : 7 ^ rkA P x = 7 ^ ρ * 7 := by rw [hρ, Nat.pow_succ]
            have g4 : 0 < 7 ^ ρ := Nat.pow_pos (by decide)
            omega
          · rw [q]
            show pt P L0 + 0 ≤ n
            omega
end EPT
