/-! the reference: the next step of a thread -/
def Nx (x : Int64) (t : Nat) (x' : Int64) : Prop := (∀ u, u < 3 → dF x' u = if u = t then dF x t + 1 else dF x u) ∧ (∀ u, u < 3 → oF x' u = oF x u) ∧ (∀ q, q < 3 → vF x' q = vF x q) ∧ ∀ k, k < 7 → gF4 x' k = gF4 x k
/-- where a state leads -/
def ChA (P : aP) (m : Nat) (x : Int64) (C : List Int64) : Prop := (∀ c, c ∈ C → rkA P c + 1 ≤ rkA P x) ∧ ∀ c, c ∈ C → ∀ S r, RlA P m x S → gBd P S r → RlA P m c S ∨ ∃ y, gOk P m S.1 y ∧ RlA P m c (gEf P S y)
def ChN (P : aP) (m : Nat) (x : Int64) (t : Nat) (C : List Int64) : Prop := C.length ≤ 1 ∧ ChA P m x C ∧ ∀ S r, RlA P m x S → gBd P S r → dF x t < P.1 t → ((m = 1 ∧ P.2.1 (4 * t + dF x t) = 0) → ∃ c, c ∈ C ∧ RlA P m c S) ∧
  (¬ (m = 1 ∧ P.2.1 (4 * t + dF x t) = 0) → (m = 1 → P.2.1 (4 * t + dF x t) = 1 ∨ oF x t = nS P t (dF x t)) → ∃ c, c ∈ C ∧ RlA P m c (gEf P S (4 * t + dF x t)))
section EPT
variable {P : aP} {I I' I0 : Nat → Nat → Int32} {J J' J0 : Nat → Nat → Int64} {m r y z k n p t s N v w i j : Nat} {x x' x1 c : Int64} {L C D : List Int64} {G : Int64 → Prop} {S S' : aT} {X : Int32} {σ : eMem}
theorem WS_ret {z : Option (Unit × eMem)} (h : WS C I J G L z) : WS C I J G L (Option.bind z (fun r => some ((), r.2))) := by
  obtain ⟨I1, J1, D1, h1, h2⟩ := h
  refine ⟨I1, J1, D1, ?_, h2⟩
  rw [h1]
  rfl
theorem rSee_le (hW : gWf P) (hB : gBd P S r) (hu : gU P y = true) : gSee P S y ≤ 15 := by
  have hy := gU_iff.1 hu
  obtain ⟨w1, w2, w3⟩ := hW.2.2 y hu
  have h4 := hW.1 (y / 4) (by omega)
  unfold gSee
  refine gLk_le ?_ _ (fun k hk hg => ?_)
  · have := hB.2.1 _ w2
    omega
  · have hz : gU P (y / 4 * 4 + k) = true := gU_iff.2 ⟨by omega, by rw [show (y / 4 * 4 + k) / 4 = y / 4 by omega, show (y / 4 * 4 + k) % 4 = k by omega]; omega⟩
    rw [Bool.and_eq_true, decide_eq_true_iff] at hg
    have := (hW.2.2 _ hz).2.2 hg.1.1
    omega
/-- nothing of a thread is on its way -/
theorem see_e (hW : gWf P) (R : RlA P m x S) (ht : t < 3) (hi : dF x t < P.1 t) (ho : m = 1 → oF x t = nS P t (dF x t)) : gSee P S (4 * t + dF x t) = vF x (P.2.2.1 (4 * t + dF x t)) := by
  obtain ⟨hu, hx, e1, e2⟩ := used_at4 hW ht hi
  obtain ⟨w1, w2, w3⟩ := hW.2.2 _ hu
  unfold gSee
  rw [e1, e2, R.2.2.2.2.1 _ w2]
  refine gLk_none _ (fun j hj => ?_)
  obtain ⟨hu2, hx2, e3, e4⟩ := used_at4 hW ht (show j < P.1 t by omega)
  rw [Nat.mul_comm t 4]
  have hS : S.1 (4 * t + j) = true := by
    cases hd : S.1 (4 * t + j) with
    | true => rfl
    | false =>
      obtain ⟨g1, g2, g3⟩ := RlA_un R hu2 hd (by rw [e3, e4]; exact hj)
      rw [e3, e4] at g3
      have := nS_lt g2 hj
      have := ho g1
      omega
  rw [hS]
  exact Bool.and_false _
theorem ChN_a (hW : gWf P) (R : RlA P m x S) (ht : t < 3) (hi : dF x t < P.1 t) (hk : m = 1 ∧ P.2.1 (4 * t + dF x t) = 0) (hx : Nx x t x') : ChN P m x t [x'] := by
  have hc : ∀ S, RlA P m x S → RlA P m x' S := fun S R => by
    obtain ⟨k1, k2⟩ := hk
    subst k1
    exact RlA_a hW R ht hi k2 hx.1 hx.2.1 hx.2.2.1 hx.2.2.2
  refine ⟨Nat.le_refl _, ⟨fun c hcc => ?_, fun c hcc S r R _ => ?_⟩, fun S r R _ _ => ⟨fun _ => ⟨x', List.mem_cons_self, hc S R⟩, fun g => absurd hk g⟩⟩
  · rw [List.mem_singleton.1 hcc]
    exact (dU hW ht hi hx.1 hx.2.1 R).2.2.2
  · rw [List.mem_singleton.1 hcc]
    exact Or.inl (hc S R)
theorem ChN_b (hW : gWf P) (R : RlA P m x S) (ht : t < 3) (hi : dF x t < P.1 t) (hk : ¬ (m = 1 ∧ P.2.1 (4 * t + dF x t) = 0)) (ho : m = 1 → P.2.1 (4 * t + dF x t) = 1 ∨ oF x t = nS P t (dF x t))
    (h1 : ∀ u, u < 3 → dF x' u = if u = t then dF x t + 1 else dF x u) (h2 : ∀ u, u < 3 → oF x' u = oF x u) (hc : ∀ S r, RlA P m x S → gBd P S r → RlA P m x' (gEf P S (4 * t + dF x t))) : ChN P m x t [x'] := by
  refine ⟨Nat.le_refl _, ⟨fun c hcc => ?_, fun c hcc S r R hB => ?_⟩, fun S r R hB _ => ⟨fun g => absurd g hk, fun _ _ => ⟨x', List.mem_cons_self, hc S r R hB⟩⟩⟩
  · rw [List.mem_singleton.1 hcc]
    exact (dU hW ht hi h1 h2 R).2.2.2
  · rw [List.mem_singleton.1 hcc]
    exact Or.inr ⟨_, ok_d hW R ht hi ho, hc S r R hB⟩
theorem ChN_n (h : dF x t < P.1 t → m = 1 ∧ ¬ P.2.1 (4 * t + dF x t) = 0 ∧ ¬ P.2.1 (4 * t + dF x t) = 1 ∧ ¬ oF x t = nS P t (dF x t)) : ChN P m x t [] := by
  refine ⟨Nat.zero_le _, ⟨fun c hcc => (by cases hcc), fun c hcc => (by cases hcc)⟩, fun S r R _ hi => ⟨fun g => absurd g.2 (h hi).2.1, fun _ g => ?_⟩⟩
  obtain ⟨a1, a2, a3, a4⟩ := h hi
  rcases g a1 with q | q
  · exact absurd q a3
  · exact absurd q a4
/-- the fields of what is put -/
theorem Nx_put (ht : t < 3) (h1 : lgF x' (3 * t) 3 = dF x t + 1) (h2 : ∀ g m', g + m' ≤ 3 * t ∨ 3 * t + 3 ≤ g → g + m' ≤ 60 → lgF x' g m' = lgF x g m') : Nx x t x' := by
  refine ⟨fun u hu => ?_, fun u hu => h2 _ _ (by omega) (by omega), fun q hq => h2 _ _ (by omega) (by omega), fun k hk => h2 _ _ (by omega) (by omega)⟩
  by_cases c : u = t
  · rw [if_pos c, c]
    exact h1
  · rw [if_neg c]
    exact h2 _ _ (by omega) (by omega)
theorem V_put (hp : p < 3) (h1 : lgF x' (18 + 4 * p) 4 = n) (h2 : ∀ g m', g + m' ≤ 18 + 4 * p ∨ 18 + 4 * p + 4 ≤ g → g + m' ≤ 60 → lgF x' g m' = lgF x g m') :
    (∀ u, u < 3 → dF x' u = dF x u) ∧ (∀ u, u < 3 → oF x' u = oF x u) ∧ (∀ q, q < 3 → vF x' q = gUp (vF x) p n q) ∧ ∀ k, k < 7 → gF4 x' k = gF4 x k := by
  refine ⟨fun u hu => h2 _ _ (by omega) (by omega), fun u hu => h2 _ _ (by omega) (by omega), fun q hq => ?_, fun k hk => h2 _ _ (by omega) (by omega)⟩
  unfold gUp
  by_cases c : q = p
  · rw [if_pos c, c]
    exact h1
  · rw [if_neg c]
    exact h2 _ _ (by omega) (by omega)
theorem G_put {K : Nat} (hK : K < 7) (h1 : lgF x' (30 + 4 * K) 4 = n) (h2 : ∀ g m', g + m' ≤ 30 + 4 * K ∨ 30 + 4 * K + 4 ≤ g → g + m' ≤ 60 → lgF x' g m' = lgF x g m') :
    (∀ u, u < 3 → dF x' u = dF x u) ∧ (∀ u, u < 3 → oF x' u = oF x u) ∧ (∀ q, q < 3 → vF x' q = vF x q) ∧ ∀ k, k < 7 → gF4 x' k = if k = K then n else gF4 x k := by
  refine ⟨fun u hu => h2 _ _ (by omega) (by omega), fun u hu => h2 _ _ (by omega) (by omega), fun q hq => h2 _ _ (by omega) (by omega), fun k hk => ?_⟩
  by_cases c : k = K
  · rw [if_pos c, c]
    exact h1
  · rw [if_neg c]
    exact h2 _ _ (by omega) (by omega)
/-- a store -/
theorem on_st (hm : m < 2) (h : PgR I P) (R : RlA P m x S) (hB : gBd P S r) (ht : t < 3) (hi : dF x t < P.1 t) (hx : Nx x t x1) (hk : P.2.1 (4 * t + dF x t) = 0) (hw : Wl I J G L) (hL : L.length < 250) (X : Int32) :
    ∃ C, ChN P m x t C ∧ WS C I J G L (f_X12_stepsOn_152 122 x (Int32.ofNat t) (if m = 1 then 1 else 0) (Int32.ofNat (4 * t + dF x t)) x1 X (I, J)) := by
  obtain ⟨hu, hx12, e1, e2⟩ := used_at4 h.1 ht hi
  obtain ⟨w1, w2, w3⟩ := h.1.2.2 _ hu
  obtain ⟨p1, p2, p3⟩ := h.2.2 _ hu
  have w3' := w3 hk
  have e3 : ¬ ¬ Int32.ofNat (P.2.1 (4 * t + dF x t)) = 0 := by
    rw [hk]
    exact fun g => g rfl
  by_cases c : m = 1
  · refine ⟨[x1], ChN_a h.1 R ht hi ⟨c, hk⟩ hx, ?_⟩
    subst c
    have R1 := RlA_a h.1 R ht hi hk hx.1 hx.2.1 hx.2.2.1 hx.2.2.2
    have key := WS_ret (rp_piles hw hL (RlA_ne h.1 R1))
    unfold f_X12_stepsOn_152 f_X12_stepsOn_200
    simp only [eLt, Option.bind_some, ↓reduceIte, K_122, R_122_33, R_122_34, R_122_35, R_122_36, K_154, K_155, K_156, K_157, true_and, and_true, eB, decide_true, decide_false, Bool.or_true, Bool.true_or, not_true_eq_false, not_false_eq_true, x_tn hx12, x_ix hx12, p1, e3, show ¬ (1 : Int32) = 0 by decide]
    exact key
  · obtain ⟨x2, a1, a2, a3⟩ := rp_put (f := 18 + 4 * P.2.2.1 (4 * t + dF x t)) (m := 4) (n := P.2.2.2 (4 * t + dF x t)) x1 (by decide) (by omega) (by omega) (by omega)
    obtain ⟨b1, b2, b3, b4⟩ := V_put w2 a2 a3
    have hR : ¬ gR P (4 * t + dF x t) = true := by
      unfold gR
      rw [hk]
      simp
    have hc : ∀ S r, RlA P m x S → gBd P S r → RlA P m x2 (gEf P S (4 * t + dF x t)) := fun S r R hB =>
      RlA_b h.1 R ht hi (fun g => absurd g c) (fun u hu => (b1 u hu).trans (hx.1 u hu)) (fun u hu => (b2 u hu).trans (hx.2.1 u hu)) (fun q hq => by
        rw [b3 q hq]
        unfold gCo gUp
        rw [if_pos hk]
        simp only [hx.2.2.1 q hq]) rfl (fun k hk => by
        rw [b4 k hk, hx.2.2.2 k hk, if_neg (fun g => hR g.1)])
    refine ⟨[x2], ChN_b h.1 R ht hi (fun g => c g.1) (fun g => absurd g c) (fun u hu => (b1 u hu).trans (hx.1 u hu)) (fun u hu => (b2 u hu).trans (hx.2.1 u hu)) hc, ?_⟩
    have key := WS_ret (rp_piles hw hL (RlA_ne h.1 (hc S r R hB)))
    have a1' := a1 (I, J)
    unfold f_X12_stepsOn_152 f_X12_stepsOn_200
    simp only [eLt, Option.bind_some, ↓reduceIte, K_122, R_122_33, R_122_34, R_122_35, R_122_36, K_154, K_155, K_156, K_157, true_and, and_true, eB, decide_true, decide_false, Bool.or_true, Bool.true_or, not_true_eq_false, not_false_eq_true, x_tn hx12, x_ix hx12, p1, p2, p3 hk, e3, c, f18]
    rw [show (4 : Int32) = Int32.ofNat 4 from rfl, a1', Option.bind_some]
    exact key
/-- a load -/
theorem on_ld (hm : m < 2) (h : PgR I P) (R : RlA P m x S) (hB : gBd P S r) (ht : t < 3) (hi : dF x t < P.1 t) (hx : Nx x t x1) (hk : P.2.1 (4 * t + dF x t) = 1) (hw : Wl I J G L) (hL : L.length < 250) (X : Int32) :
    ∃ C, ChN P m x t C ∧ WS C I J G L (f_X12_stepsOn_152 122 x (Int32.ofNat t) (if m = 1 then 1 else 0) (Int32.ofNat (4 * t + dF x t)) x1 X (I, J)) := by
  obtain ⟨hu, hx12, e1, e2⟩ := used_at4 h.1 ht hi
  obtain ⟨w1, w2, w3⟩ := h.1.2.2 _ hu
  obtain ⟨p1, p2, p3⟩ := h.2.2 _ hu
  have hR : gR P (4 * t + dF x t) = true := by
    unfold gR
    rw [hu, hk]
    rfl
  have hl := gNr_lt hR
  have hl6 := gAll_le h.1
  have hs := rSee_le h.1 hB hu
  obtain ⟨x2, a1, a2, a3⟩ := rp_put (f := 30 + 4 * gNr P (4 * t + dF x t)) (m := 4) (n := min (gSee P S (4 * t + dF x t)) 9) x1 (by decide) (by omega) (by omega) (by omega)
  obtain ⟨b1, b2, b3, b4⟩ := G_put (by omega) a2 a3
  have hc : ∀ S r, RlA P m x S → gBd P S r → RlA P m x2 (gEf P S (4 * t + dF x t)) := fun S' r R' hB =>
    RlA_b (w := min (gSee P S (4 * t + dF x t)) 9) h.1 R' ht hi (fun _ => by omega) (fun u hu => (b1 u hu).trans (hx.1 u hu)) (fun u hu => (b2 u hu).trans (hx.2.1 u hu)) (fun q hq => by
      rw [b3 q hq, hx.2.2.1 q hq]
      unfold gCo
      rw [if_neg (by omega), if_neg (by omega)]) (by rw [rl_see h.1 R R' hu]) (fun k hk => by
      rw [b4 k hk, hx.2.2.2 k hk]
      by_cases c : k = gNr P (4 * t + dF x t)
      · rw [if_pos c, if_pos ⟨hR, c⟩]
      · rw [if_neg c, if_neg (fun g => c g.2)])
  refine ⟨[x2], ChN_b h.1 R ht hi (by omega) (fun _ => Or.inl hk) (fun u hu => (b1 u hu).trans (hx.1 u hu)) (fun u hu => (b2 u hu).trans (hx.2.1 u hu)) hc, ?_⟩
  have key := WS_ret (rp_piles hw hL (RlA_ne h.1 (hc S r R hB)))
  have a1' := a1 (I, J)
  have e3 : Int32.ofNat (P.2.1 (4 * t + dF x t)) = 1 := by rw [hk]; rfl
  have sn := rp_seen (J := J) h hm R ht hi
  have e9 : (Int32.ofNat (gSee P S (4 * t + dF x t)) ≤ 9) = (gSee P S (4 * t + dF x t) ≤ 9) := i_le (m := 9) (by omega) (by decide)
  have last : ∀ q : Int32, q = Int32.ofNat (min (gSee P S (4 * t + dF x t)) 9) → WS [x2] I J G L (f_X12_stepsOn_263 122 x1 (Int32.ofNat (30 + 4 * gNr P (4 * t + dF x t))) 4 q (I, J)) := by
    intro q hq
    subst hq
    unfold f_X12_stepsOn_263
    rw [show (4 : Int32) = Int32.ofNat 4 from rfl, a1', Option.bind_some]
    simp only [eLt, Option.bind_some, ↓reduceIte, K_122, R_122_33, R_122_34, R_122_35, R_122_36, K_154, K_155, K_156, K_157, true_and, and_true, eB, decide_true, decide_false, Bool.or_true, Bool.true_or, not_true_eq_false, not_false_eq_true]
    exact key
  unfold f_X12_stepsOn_152
  simp only [eLt, Option.bind_some, ↓reduceIte, K_122, R_122_33, R_122_34, R_122_35, R_122_36, K_154, K_155, K_156, K_157, true_and, and_true, eB, decide_true, decide_false, Bool.or_true, Bool.true_or, not_true_eq_false, not_false_eq_true, x_tn hx12, x_ix hx12, p1, p2, e3, sn, rp_res hx12 h, e9, f30, show ¬ (1 : Int32) = 0 by decide]
  by_cases c : gSee P S (4 * t + dF x t) ≤ 9
  · rw [if_pos c]
    exact last _ (by rw [Nat.min_eq_left c])
  · rw [if_neg c]
    exact last _ (by rw [Nat.min_eq_right (by omega)]; rfl)
end EPT
