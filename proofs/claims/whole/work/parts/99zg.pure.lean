/-! the reference: the search begun; the calls that tell outcomes -/
section EPT
variable {P : aP} {I I' I0 : Nat → Nat → Int32} {J J' J0 : Nat → Nat → Int64} {m r y z k n p t s N v w i j : Nat} {x x' x1 c : Int64} {L C D : List Int64} {G : Int64 → Prop} {S S' : aT} {X Y : Int32} {σ : eMem} {l l' : List Nat}
theorem wN_non : ∀ n, wN (fun _ => false) n = 0
  | 0 => rfl
  | n + 1 => by
    unfold wN
    rw [wN_non n, if_neg (by decide)]
theorem rp_clr : ∀ d k N (J : Nat → Nat → Int64), k + d = 8192 → d < N → ∃ J', f_X12_goesThrough_2 N 122 X (Int32.ofNat k) (I, J) = f_X12_goesThrough_2 1 122 X 8192 (I, J') ∧ (∀ i, k ≤ i → i < 8192 → J' 159 i = 0) ∧ (∀ i, i < k → J' 159 i = J 159 i) ∧ ∀ r, ¬ r = 159 → J' r = J r := by
  intro d
  induction d with
  | zero =>
    intro k N J hk hN
    obtain ⟨N, rfl⟩ := Nat.exists_eq_add_of_le' (show 1 ≤ N by omega)
    have e : k = 8192 := hk
    subst e
    refine ⟨J, ?_, fun i h1 h2 => by omega, fun _ _ => rfl, fun _ _ => rfl⟩
    rw [f_X12_goesThrough_2, f_X12_goesThrough_2, if_pos (show (8192 : Int32) ≤ Int32.ofNat 8192 by decide), if_pos (show (8192 : Int32) ≤ 8192 by decide)]
  | succ d ih =>
    intro k N J hk hN
    obtain ⟨N, rfl⟩ := Nat.exists_eq_add_of_le' (show 1 ≤ N by omega)
    have e : ((8192 : Int32) ≤ Int32.ofNat k) = False := (i_le (n := 8192) (by decide) (by omega)).trans (eq_false (by omega))
    have e1 : (Int32.ofNat k).toNatClampNeg = k := i_tn (by omega)
    have e2 : eix (Int32.ofNat k) 8192 = true := i_ix (by omega) (by decide)
    have e3 : Int32.ofNat k + 1 = Int32.ofNat (k + 1) := i_ad (m := 1)
    obtain ⟨J', a1, a2, a3, a4⟩ := ih (k + 1) N (eup J 159 k 0) (by omega) (by omega)
    refine ⟨J', ?_, fun i h1 h2 => ?_, fun i h1 => ?_, fun r hr => (a4 r hr).trans (up_fr hr)⟩
    · rw [← a1]
      obtain ⟨z, hz⟩ : ∃ z, z = f_X12_goesThrough_2 N 122 X (Int32.ofNat (k + 1)) (I, eup J 159 k 0) := ⟨_, rfl⟩
      rw [← hz, f_X12_goesThrough_2]
      simp only [eLt, Option.bind_some, ↓reduceIte, K_122, R_122_33, R_122_37, R_122_39, R_122_41, K_158, K_159, K_160, true_and, and_true, eB, decide_true, decide_false, Bool.or_true, Bool.true_or, not_true_eq_false, not_false_eq_true, e, e1, e2, e3, ← hz]
    · by_cases c : i = k
      · rw [a3 i (by omega), c, up_eq]
      · exact a2 i (by omega) h2
    · rw [a3 i (by omega), up_k (by omega)]
theorem rp_goes (hm : m < 2) (h : PgR I P) : Fnd P m I J (f_X12_goesThrough 122 (if m = 1 then 1 else 0) (I, J)) := by
  obtain ⟨J1, a1, a2, a3, a4⟩ := rp_clr (I := I) (X := if m = 1 then 1 else 0) 8192 0 1000000 J (by decide) (by decide)
  have a1' : f_X12_goesThrough 122 (if m = 1 then 1 else 0) (I, J) = f_X12_goesThrough_2 1 122 (if m = 1 then 1 else 0) 8192 (I, J1) := a1
  rw [a1']
  obtain ⟨I3, hI3⟩ : ∃ I3, I3 = eup (eup (eup I 122 40 0) 122 42 0) 122 38 0 := ⟨_, rfl⟩
  have f1 : ∀ r, ¬ r = 122 → I3 r = I r := fun r hr => by rw [hI3, up_fr hr, up_fr hr, up_fr hr]
  have f2 : ∀ i, ¬ i = 38 → ¬ i = 40 → ¬ i = 42 → I3 122 i = I 122 i := fun i h1 h2 h3 => by rw [hI3, up_k h1, up_k h3, up_k h2]
  have h38 : I3 122 38 = 0 := by rw [hI3, up_eq]
  have h40 : I3 122 40 = 0 := by rw [hI3, up_k (by decide), up_k (by decide), up_eq]
  have h42 : I3 122 42 = 0 := by rw [hI3, up_k (by decide), up_eq]
  have hw : Wl I3 J1 (fun _ => False) [] := by
    refine ⟨h38, fun i hi => absurd hi (Nat.not_lt_zero _), ⟨0, Nat.zero_le _, h40, ?_⟩, fun i h1 h2 => absurd (a2 i (Nat.zero_le _) h1) h2⟩
    rw [wN_eq (g := fun _ => false) 8192 (fun i hi => decide_eq_false (fun g => g (a2 i (Nat.zero_le _) hi)))]
    exact wN_non _
  obtain ⟨I4, J4, D, b1, b2, b3, b4, b5, b6⟩ := rp_piles hw (show ([] : List Int64).length < 250 by decide) (show ¬ (0 : Int64) = -1 by decide)
  have hD : D = [0] := by
    have h0 := (b5 0 List.mem_cons_self).resolve_left (fun g => g)
    have h1 : D.length ≤ 1 := b3
    cases D with
    | nil => cases h0
    | cons d D =>
      have : D = [] := List.length_eq_zero_iff.1 (by rw [List.length_cons] at h1; omega)
      subst this
      rw [List.mem_singleton.1 h0]
  subst hD
  have h4 : PgR I4 P := PgR_fr h (fun r r1 r2 => (b6.1 r (by omega)).trans (f1 r (by omega)))
  have hrk := rkA_le (x := 0) h.1
  obtain ⟨N, hN⟩ : ∃ N, N = 1000000000000 := ⟨_, rfl⟩
  have key := rp_loop hm (7 ^ 12) N [0] I4 J4 _ [] h4 b2 (fun i hi => by
    have : i = 0 := by
      rw [List.length_singleton] at hi
      omega
    subst this
    show 0 + 6 * rkA P 0 ≤ 72
    omega) (fun g hg => by
    rcases hg with q | q
    · cases q
    · rw [List.mem_singleton.1 q]
      exact Gd_0 h.1) (fun g hg => Or.inr hg) (fun g hg => Or.inl (hg.resolve_left (fun q => q))) ⟨by rw [b6.2.1 42 (by decide) (by decide)]; exact h42, fun i hi => absurd hi (Nat.not_lt_zero _)⟩ (fun i j _ hj => absurd hj (Nat.not_lt_zero _)) (fun k hk => by cases hk) (Or.inr List.mem_cons_self) (by
    show 7 ^ rkA P 0 + 0 ≤ 7 ^ 12
    exact Nat.pow_le_pow_right (by decide) hrk) (by rw [hN]; exact Nat.le_of_ble_eq_true rfl)
  rw [f_X12_goesThrough_2, ← hN]
  simp only [eLt, Option.bind_some, ↓reduceIte, K_122, R_122_33, R_122_37, R_122_39, R_122_41, K_158, K_159, K_160, true_and, and_true, eB, decide_true, decide_false, Bool.or_true, Bool.true_or, not_true_eq_false, not_false_eq_true, show (8192 : Int32) ≤ 8192 by decide, ← hI3, b1]
  refine Fnd_tr key (fun r r1 r2 => (b6.1 r r1).trans (f1 r r1)) (fun i i1 i2 i3 => (b6.2.1 i i1 i2).trans (f2 i i1 i2 i3)) (fun r r1 r2 => (b6.2.2 r r1 r2).trans (a4 r r2))
theorem rP_fnd {u : Int32} {z : Option (Int32 × eMem)} (h : Fnd P m (eup I 122 32 u) J z) : ∃ l, gLi P m l ∧ rP z I J (u, Int32.ofNat l.length, P) := by
  obtain ⟨I', J', l, a1, a2, a3, a4, a5, a6, a7⟩ := h
  exact ⟨l, a3, I', J', a1, a4, by rw [a6 32 (by decide) (by decide) (by decide), up_eq], fun r h1 h2 => (a5 r h1 (by omega)).trans (up_fr h1), fun i h1 h2 h3 h4 => (a6 i h2 h3 h4).trans (up_k h1), a7⟩
theorem PgR_32 {u : Int32} (h : PgR I P) : PgR (eup I 122 32 u) P := PgR_fr h (fun r h1 h2 => up_fr (by omega))
theorem rp_told (hm : m < 2) (h : PgR I P) : ∃ l, gLi P m l ∧ rP (f_X12_outcomesTold 122 (Int32.ofNat m) (I, J)) I J (0, Int32.ofNat l.length, P) := by
  have key := rP_fnd (rp_goes (J := J) hm (PgR_32 (u := 0) h))
  obtain ⟨l, h1, I', J', h2, h3⟩ := key
  refine ⟨l, h1, I', J', ?_, h3⟩
  have : m = 0 ∨ m = 1 := by omega
  rcases this with c | c
  · subst c
    have h2' : f_X12_goesThrough 122 0 (eup I 122 32 0, J) = some (Int32.ofNat l.length, (I', J')) := h2
    unfold f_X12_outcomesTold f_X12_outcomesTold_10 f_X12_outcomesTold_15 f_X12_outcomesTold_32 f_X12_outcomesTold_39
    rw [if_pos (show Int32.ofNat 0 = 0 from rfl)]
    simp only [eLt, Option.bind_some, ↓reduceIte, K_122, R_122_33, R_122_37, R_122_39, R_122_41, K_158, K_159, K_160, true_and, and_true, eB, decide_true, decide_false, Bool.or_true, Bool.true_or, not_true_eq_false, not_false_eq_true, rp_as1, show ¬ (1 : Int32) = 0 by decide, show ¬ Int32.ofNat 0 = 1 by decide, h2']
  · subst c
    have h2' : f_X12_goesThrough 122 1 (eup I 122 32 0, J) = some (Int32.ofNat l.length, (I', J')) := h2
    unfold f_X12_outcomesTold f_X12_outcomesTold_10 f_X12_outcomesTold_15 f_X12_outcomesTold_32 f_X12_outcomesTold_39
    rw [if_neg (show ¬ Int32.ofNat 1 = 0 by decide), if_neg (show ¬ ¬ Int32.ofNat 1 = 1 by decide)]
    simp only [eLt, Option.bind_some, ↓reduceIte, K_122, R_122_33, R_122_37, R_122_39, R_122_41, K_158, K_159, K_160, true_and, and_true, eB, decide_true, decide_false, Bool.or_true, Bool.true_or, not_true_eq_false, not_false_eq_true, rp_as1, show ¬ (1 : Int32) = 0 by decide, show Int32.ofNat 1 = 1 from rfl, h2']
theorem x_01 (hb : X < 0 ∨ ¬ X ≤ 1) : ¬ X = 0 ∧ ¬ X = 1 := by
  constructor
  · intro e
    subst e
    exact absurd hb (by decide)
  · intro e
    subst e
    exact absurd hb (by decide)
theorem rp_toldN (hb : X < 0 ∨ ¬ X ≤ 1) (h : PgR I P) : rP (f_X12_outcomesTold 122 X (I, J)) I J (1, 0, P) := by
  obtain ⟨h0, h1⟩ := x_01 hb
  unfold f_X12_outcomesTold f_X12_outcomesTold_15 f_X12_outcomesTold_39
  rw [if_neg h0, if_pos h1]
  simp only [eLt, Option.bind_some, ↓reduceIte, K_122, R_122_33, R_122_37, R_122_39, R_122_41, K_158, K_159, K_160, true_and, and_true, eB, decide_true, decide_false, Bool.or_true, Bool.true_or, not_true_eq_false, not_false_eq_true, rp_as0]
  exact ⟨_, J, rfl, PgR_32 h, up_eq, fun r h1 _ => up_fr h1, fun i h1 _ _ _ => up_k h1, fun _ _ _ => rfl⟩
theorem rP_id {z : Option (Int32 × eMem)} {o : Int32 × Int32 × aP} (h : rP z I J o) : rP (Option.bind z (fun r1 => some (r1.1, r1.2))) I J o := by
  obtain ⟨I', J', h1, h2⟩ := h
  refine ⟨I', J', ?_, h2⟩
  rw [h1]
  rfl
theorem rp_outcomes (hm : m < 2) (h : PgR I P) : ∃ l, gLi P m l ∧ rP (f_X12_outcomes 122 (Int32.ofNat m) (I, J)) I J (0, Int32.ofNat l.length, P) := by
  obtain ⟨l, h1, h2⟩ := rp_told (J := J) hm h
  exact ⟨l, h1, rP_id h2⟩
theorem rp_outcomesN (hb : X < 0 ∨ ¬ X ≤ 1) (h : PgR I P) : rP (f_X12_outcomes 122 X (I, J)) I J (1, 0, P) := rP_id (rp_toldN hb h)
theorem rp_anew (hm : m < 2) (h : PgR I P) : ∃ l, gLi P m l ∧ rP (f_X12_outcomesAnew 122 (Int32.ofNat m) (I, J)) I J (0, Int32.ofNat l.length, P) := by
  obtain ⟨l, h1, h2⟩ := rp_told (J := J) hm h
  exact ⟨l, h1, rP_id h2⟩
theorem rp_anewN (hb : X < 0 ∨ ¬ X ≤ 1) (h : PgR I P) : rP (f_X12_outcomesAnew 122 X (I, J)) I J (1, 0, P) := rP_id (rp_toldN hb h)
theorem rp_outcome1 (hm : m < 2) : f_X12_outcome 122 (Int32.ofNat m) Y σ = f_X12_outcome_15 122 (Int32.ofNat m) Y σ := by
  unfold f_X12_outcome
  have : m = 0 ∨ m = 1 := by omega
  rcases this with c | c
  · subst c
    rw [if_pos (show Int32.ofNat 0 = 0 from rfl)]
  · subst c
    rw [if_neg (show ¬ Int32.ofNat 1 = 0 by decide), if_pos (show Int32.ofNat 1 = 1 from rfl)]
theorem rp_outcome2 (hm : m < 2) (hY : ¬ Y < 0) : f_X12_outcome_15 122 (Int32.ofNat m) Y σ = f_X12_outcome_32 122 Y 122 Y 122 (if m = 1 then 1 else 0) σ := by
  unfold f_X12_outcome_15
  rw [if_neg hY]
  have : m = 0 ∨ m = 1 := by omega
  rcases this with c | c
  · subst c
    rw [if_pos (show ¬ Int32.ofNat 0 = 1 by decide)]
    rfl
  · subst c
    rw [if_neg (show ¬ ¬ Int32.ofNat 1 = 1 by decide)]
    rfl
theorem rp_o42 (h : PgR I P) : rP (f_X12_outcome_42 122 Y 122 (I, J)) I J (1, 0, P) := by
  unfold f_X12_outcome_42 f_X12_outcome_43 f_X12_outcome_59
  simp only [eLt, Option.bind_some, ↓reduceIte, K_122, R_122_33, R_122_37, R_122_39, R_122_41, K_158, K_159, K_160, true_and, and_true, eB, decide_true, decide_false, Bool.or_true, Bool.true_or, not_true_eq_false, not_false_eq_true, rp_as0]
  exact ⟨_, J, rfl, PgR_32 h, up_eq, fun r h1 _ => up_fr h1, fun i h1 _ _ _ => up_k h1, fun _ _ _ => rfl⟩
theorem rP_tr2 {z : Option (Int32 × eMem)} {o : Int32 × Int32 × aP} (h : rP z I0 J0 o) (a5 : ∀ r, ¬ r = 122 → ¬ r = 160 → I0 r = I r) (a6 : ∀ i, ¬ i = 38 → ¬ i = 40 → ¬ i = 42 → I0 122 i = I 122 i) (a7 : ∀ r, ¬ r = 158 → ¬ r = 159 → J0 r = J r) : rP z I J o := by
  obtain ⟨I', J', h1, h2, h3, h4, h5, h6⟩ := h
  exact ⟨I', J', h1, h2, h3, fun r r1 r2 => (h4 r r1 r2).trans (a5 r r1 (by omega)), fun i i1 i2 i3 i4 => (h5 i i1 i2 i3 i4).trans (a6 i i2 i3 i4), fun r r1 r2 => (h6 r r1 r2).trans (a7 r r1 r2)⟩
theorem i_nneg (hY : ¬ Y < 0) : ∃ k, k < 2147483648 ∧ Y = Int32.ofNat k := i_ex hY
theorem rp_outcome (hm : m < 2) (h : PgR I P) : ∃ l, gLi P m l ∧ ((Y < 0 ∨ ¬ Y < Int32.ofNat l.length) → rP (f_X12_outcome 122 (Int32.ofNat m) Y (I, J)) I J (1, 0, P)) ∧
    ∀ k, k < l.length → Y = Int32.ofNat k → rP (f_X12_outcome 122 (Int32.ofNat m) Y (I, J)) I J (0, Int32.ofNat (l.getD k 0), P) := by
  obtain ⟨I1, J1, l, a1, a2, a3, a4, a5, a6, a7⟩ := rp_goes (J := J) hm h
  have h720 := gLi_len h.1 a3.1 (fun k hk => (a3.2 k).1 hk)
  refine ⟨l, a3, fun hY => ?_, fun k hk hY => ?_⟩
  · rw [rp_outcome1 hm]
    by_cases c : Y < 0
    · unfold f_X12_outcome_15
      rw [if_pos c]
      exact rp_o42 h
    · have hY' := hY.resolve_left c
      obtain ⟨k, hk, e⟩ := i_ex c
      subst e
      rw [i_lt hk (by omega)] at hY'
      have e1 : (Int32.ofNat l.length ≤ Int32.ofNat k) = True := (i_le (by omega) hk).trans (eq_true (by omega))
      rw [rp_outcome2 hm c]
      unfold f_X12_outcome_32
      simp only [eLt, Option.bind_some, ↓reduceIte, K_122, R_122_33, R_122_37, R_122_39, R_122_41, K_158, K_159, K_160, true_and, and_true, eB, decide_true, decide_false, Bool.or_true, Bool.true_or, not_true_eq_false, not_false_eq_true, a1, e1]
      exact rP_tr2 (rp_o42 a4) a5 a6 a7
  · subst hY
    have c : ¬ Int32.ofNat k < 0 := by
      rw [i_lt0 (by omega)]
      exact fun g => g
    have e1 : (Int32.ofNat l.length ≤ Int32.ofNat k) = False := (i_le (by omega) (by omega)).trans (eq_false (by omega))
    have e2 : (Int32.ofNat k).toNatClampNeg = k := i_tn (by omega)
    have e3 : eix (Int32.ofNat k) 1024 = true := i_ix (by omega) (by decide)
    have e4 : eup I1 122 32 0 160 k = Int32.ofNat (l.getD k 0) := by
      rw [up_r (by decide)]
      exact a2.2 k hk
    rw [rp_outcome1 hm, rp_outcome2 hm c]
    unfold f_X12_outcome_32 f_X12_outcome_43 f_X12_outcome_59
    simp only [eLt, Option.bind_some, ↓reduceIte, K_122, R_122_33, R_122_37, R_122_39, R_122_41, K_158, K_159, K_160, true_and, and_true, eB, decide_true, decide_false, Bool.or_true, Bool.true_or, not_true_eq_false, not_false_eq_true, a1, e1, rp_as1, e2, e3, e4, show ¬ (1 : Int32) = 0 by decide]
    refine rP_tr2 (I0 := I1) (J0 := J1) ?_ a5 a6 a7
    exact ⟨_, J1, rfl, PgR_32 a4, up_eq, fun r h1 _ => up_fr h1, fun i h1 _ _ _ => up_k h1, fun _ _ _ => rfl⟩
theorem rp_outcomeN (hb : X < 0 ∨ ¬ X ≤ 1) (h : PgR I P) : rP (f_X12_outcome 122 X Y (I, J)) I J (2, 0, P) := by
  obtain ⟨h0, h1⟩ := x_01 hb
  unfold f_X12_outcome f_X12_fails
  rw [if_neg h0, if_neg h1]
  simp only [eLt, Option.bind_some, ↓reduceIte, K_122, R_122_33, R_122_37, R_122_39, R_122_41, K_158, K_159, K_160, true_and, and_true, eB, decide_true, decide_false, Bool.or_true, Bool.true_or, not_true_eq_false, not_false_eq_true]
  exact ⟨_, J, rfl, PgR_32 h, up_eq, fun r h1 _ => up_fr h1, fun i h1 _ _ _ => up_k h1, fun _ _ _ => rfl⟩
theorem rp_alike (h : PgR I P) : ∃ l0 l1, gLi P 0 l0 ∧ gLi P 1 l1 ∧ rP (f_X12_areAlike 122 (I, J)) I J (0, if l0.length = l1.length then 1 else 0, P) := by
  obtain ⟨I1, J1, l0, a1, a2, a3, a4, a5, a6, a7⟩ := rp_goes (m := 0) (J := J) (by decide) (PgR_32 (u := 0) h)
  obtain ⟨I2, J2, l1, b1, b2, b3, b4, b5, b6, b7⟩ := rp_goes (m := 1) (J := J1) (by decide) a4
  have a1' : f_X12_goesThrough 122 0 (eup I 122 32 0, J) = some (Int32.ofNat l0.length, (I1, J1)) := a1
  have b1' : f_X12_goesThrough 122 1 (I1, J1) = some (Int32.ofNat l1.length, (I2, J2)) := b1
  have h0 := gLi_len h.1 a3.1 (fun k hk => (a3.2 k).1 hk)
  have h1 := gLi_len h.1 b3.1 (fun k hk => (b3.2 k).1 hk)
  have e : (Int32.ofNat l0.length = Int32.ofNat l1.length) = (l0.length = l1.length) := i_eq (by omega) (by omega)
  refine ⟨l0, l1, a3, b3, I2, J2, ?_, b4, ?_, fun r r1 r2 => ((b5 r r1 (by omega)).trans (a5 r r1 (by omega))).trans (up_fr r1), fun i i1 i2 i3 i4 => ((b6 i i2 i3 i4).trans (a6 i i2 i3 i4)).trans (up_k i1), fun r r1 r2 => (b7 r r1 r2).trans (a7 r r1 r2)⟩
  · unfold f_X12_areAlike f_X12_areAlike_23
    simp only [eLt, Option.bind_some, ↓reduceIte, K_122, R_122_33, R_122_37, R_122_39, R_122_41, K_158, K_159, K_160, true_and, and_true, eB, decide_true, decide_false, Bool.or_true, Bool.true_or, not_true_eq_false, not_false_eq_true, a1', b1', e]
    by_cases c : l0.length = l1.length
    · simp only [c, not_true_eq_false, ↓reduceIte, show ((1 : Int32) = 0 ∨ (1 : Int32) = 1) = True from eq_true (by decide)]
    · simp only [c, not_false_eq_true, ↓reduceIte]
  · show I2 122 32 = 0
    rw [b6 32 (by decide) (by decide) (by decide), a6 32 (by decide) (by decide) (by decide), up_eq]
end EPT
