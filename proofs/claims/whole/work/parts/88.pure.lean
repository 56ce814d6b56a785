/-! the invariant: rows, and how long they and the queues are -/
section EPV
variable {a a' b : aS} {r i l l' q q' c c' k n p p' w z N o D : Nat} {v t x y : Int32} {m : aM} {L ms : List aM}
/-- a request goes into a row, or comes out of it -/
theorem CI_rpush {hR hP hR' hP' : Nat → Nat → Nat} (hl : l < 16) (h : CI a hR hP z1)
    (eR : ∀ c' l', c' < 4 → l' < 16 → (if l' = l ∧ pR c' l' m = true then 1 else 0) + hR' c' l' ≤ hR c' l')
    (eP : ∀ c' l', c' < 4 → l' < 16 → (if l' = l ∧ pP c' l' m = true then 1 else 0) + hP' c' l' ≤ hP c' l') : CI (aPush a (15 + l) m) hR' hP' z1 := by
  have cnt : ∀ s (f : aM → Bool), ((aPush a (15 + l) m).2 s).countP f = (a.2 s).countP f + (if s = 15 + l ∧ f m = true then 1 else 0) := by
    intro s f
    by_cases g : s = 15 + l
    · subst g
      show ((aL a _ _).2 _).countP f = _
      rw [aL_e, cnt_app]
      simp
    · show ((aL a _ _).2 _).countP f = _
      rw [aL_k g]
      simp [g]
  refine ⟨fun c' hc l' hl' => ?_, fun l' hl' => ?_⟩
  · obtain ⟨h1, h2, h3⟩ := h.1 c' hc l' hl'
    have g1 := eR c' l' hc hl'
    have g2 := eP c' l' hc hl'
    have i1 : (if 15 + l' = 15 + l ∧ pR c' l' m = true then 1 else 0) = (if l' = l ∧ pR c' l' m = true then 1 else 0) := by
      by_cases e : l' = l
      · rw [e]
        simp
      · rw [if_neg (by omega), if_neg (by omega)]
    have i2 : (if 15 + l' = 15 + l ∧ pP c' l' m = true then 1 else 0) = (if l' = l ∧ pP c' l' m = true then 1 else 0) := by
      by_cases e : l' = l
      · rw [e]
        simp
      · rw [if_neg (by omega), if_neg (by omega)]
    refine ⟨?_, ?_, h3⟩
    · rw [aWs_eq (b := aPush a (15 + l) m) (a := a) rfl rfl]
      unfold nR at h1 ⊢
      rw [cnt, cnt, cnt, i1, if_neg (show ¬ (4 = 15 + l ∧ _) by omega), if_neg (show ¬ (10 + c' = 15 + l ∧ _) by omega)]
      have : cBz (aPush a (15 + l) m) c' l' = cBz a c' l' := rfl
      omega
    · unfold nP at h2 ⊢
      rw [cnt, cnt, cnt, i2, if_neg (show ¬ (4 = 15 + l ∧ _) by omega), if_neg (show ¬ (10 + c' = 15 + l ∧ _) by omega)]
      have : aLs (aPush a (15 + l) m) c' l' = aLs a c' l' := rfl
      omega
  · have h1 := h.2 l' hl'
    have e : ∀ c, aLt (aPush a (15 + l) m) c l' = aLt a c l' := fun c => aLt_eq rfl rfl rfl
    have e2 : due (aPush a (15 + l) m) l' = due a l' := rfl
    unfold nFw nFc at h1 ⊢
    rw [cnt, cnt, cnt, cnt, cnt, e, e, e, e, e2, if_neg (by omega), if_neg (by omega), if_neg (by omega), if_neg (by omega), if_neg (by omega)]
    exact h1
theorem CI_rpop {hR hP hR' hP' : Nat → Nat → Nat} (hl : l < 16) (hL : a.2 (15 + l) = m :: ms) (h : CI a hR hP z1)
    (eR : ∀ c' l', c' < 4 → l' < 16 → hR' c' l' ≤ hR c' l' + (if l' = l ∧ pR c' l' m = true then 1 else 0))
    (eP : ∀ c' l', c' < 4 → l' < 16 → hP' c' l' ≤ hP c' l' + (if l' = l ∧ pP c' l' m = true then 1 else 0)) : CI (aL a (15 + l) ms) hR' hP' z1 := by
  have cnt : ∀ s (f : aM → Bool), (a.2 s).countP f = ((aL a (15 + l) ms).2 s).countP f + (if s = 15 + l ∧ f m = true then 1 else 0) := by
    intro s f
    by_cases g : s = 15 + l
    · subst g
      rw [aL_e, hL, List.countP_cons]
      simp
    · rw [aL_k g]
      simp [g]
  refine ⟨fun c' hc l' hl' => ?_, fun l' hl' => ?_⟩
  · obtain ⟨h1, h2, h3⟩ := h.1 c' hc l' hl'
    have g1 := eR c' l' hc hl'
    have g2 := eP c' l' hc hl'
    have i1 : (if 15 + l' = 15 + l ∧ pR c' l' m = true then 1 else 0) = (if l' = l ∧ pR c' l' m = true then 1 else 0) := by
      by_cases e : l' = l
      · rw [e]
        simp
      · rw [if_neg (by omega), if_neg (by omega)]
    have i2 : (if 15 + l' = 15 + l ∧ pP c' l' m = true then 1 else 0) = (if l' = l ∧ pP c' l' m = true then 1 else 0) := by
      by_cases e : l' = l
      · rw [e]
        simp
      · rw [if_neg (by omega), if_neg (by omega)]
    refine ⟨?_, ?_, h3⟩
    · rw [aWs_eq (b := aL a (15 + l) ms) (a := a) rfl rfl]
      unfold nR at h1 ⊢
      rw [cnt 4, cnt (15 + l'), cnt (10 + c'), i1, if_neg (show ¬ (4 = 15 + l ∧ _) by omega), if_neg (show ¬ (10 + c' = 15 + l ∧ _) by omega)] at h1
      have : cBz (aL a (15 + l) ms) c' l' = cBz a c' l' := rfl
      omega
    · unfold nP at h2 ⊢
      rw [cnt 4, cnt (15 + l'), cnt (10 + c'), i2, if_neg (show ¬ (4 = 15 + l ∧ _) by omega), if_neg (show ¬ (10 + c' = 15 + l ∧ _) by omega)] at h2
      have : aLs (aL a (15 + l) ms) c' l' = aLs a c' l' := rfl
      omega
  · have h1 := h.2 l' hl'
    have e : ∀ c, aLt (aL a (15 + l) ms) c l' = aLt a c l' := fun c => aLt_eq rfl rfl rfl
    have e2 : due (aL a (15 + l) ms) l' = due a l' := rfl
    unfold nFw nFc at h1 ⊢
    rw [cnt (5 + 0), cnt (5 + 1), cnt (5 + 2), cnt (5 + 3), cnt 14, if_neg (show ¬ (5 + 0 = 15 + l ∧ _) by omega), if_neg (show ¬ (5 + 1 = 15 + l ∧ _) by omega), if_neg (show ¬ (5 + 2 = 15 + l ∧ _) by omega), if_neg (show ¬ (5 + 3 = 15 + l ∧ _) by omega), if_neg (show ¬ (14 = 15 + l ∧ _) by omega)] at h1
    rw [e, e, e, e, e2]
    exact h1
theorem FI_rpush (hl : l < 16) (hm : mF (15 + l) m) (h : FI a) : FI (aPush a (15 + l) m) := by
  refine ⟨fun c hc => coreF_eq (fun r _ _ _ => rfl) (h.1 c hc), fun l hl => lineF_eq (fun r _ _ => rfl) (h.2.1 l hl), fun s hs m' hm' => ?_⟩
  by_cases g : s = 15 + l
  · subst g
    have hm' : m' ∈ (aL a _ _).2 _ := hm'
    rw [aL_e, List.mem_append, List.mem_singleton] at hm'
    rcases hm' with hm' | hm'
    · exact h.2.2 _ hs m' hm'
    · rw [hm']
      exact hm
  · have hm' : m' ∈ (aL a _ _).2 _ := hm'
    rw [aL_k g] at hm'
    exact h.2.2 s hs m' hm'
/-- what is in hand with a request -/
theorem tokR (hk : m.1 < 3) (hm : m.2.1 = l) : (if l' = l ∧ pR c' l' m = true then 1 else 0) = (if m.1 < 2 then d2 m.2.2.1 l else z2) c' l' := by
  unfold pR
  by_cases k2 : m.1 < 2
  · rw [if_pos k2]
    unfold d2
    by_cases e : l' = l
    · subst e
      by_cases g : c' = m.2.2.1
      · simp [k2, hm, g]
      · simp [k2, hm, g, Ne.symm g]
    · rw [if_neg (fun q => e q.1), if_neg (fun q => e q.2)]
  · rw [if_neg k2]
    simp [k2, z2]
theorem tokP (hk : m.1 < 3) (hm : m.2.1 = l) : (if l' = l ∧ pP c' l' m = true then 1 else 0) = (if m.1 < 2 then z2 else d2 m.2.2.1 l) c' l' := by
  unfold pP
  by_cases k2 : m.1 < 2
  · rw [if_pos k2]
    have : ¬ m.1 = 2 := by omega
    simp [this, z2]
  · have k3 : m.1 = 2 := by omega
    rw [if_neg k2]
    unfold d2
    by_cases e : l' = l
    · subst e
      by_cases g : c' = m.2.2.1
      · simp [k3, hm, g]
      · simp [k3, hm, g, Ne.symm g]
    · rw [if_neg (fun q => e q.1), if_neg (fun q => e q.2)]
theorem aDoes_27 {kd : Nat} (h : ¬ l' = l) : (aDoes a kd l c n).1 127 l' = a.1 127 l' := by
  have e1 : ∀ (b : aS) k c n, (aWaits b l k c n).1 127 l' = b.1 127 l' := fun b k c n => by
    unfold aWaits
    rw [aW_1 (by decide), aW_1 (by decide), aW_k h]
  unfold aDoes
  split
  · unfold aDoP
    rw [aSend_1 (by decide)]
    split
    · rw [aW_1 (by decide), aW_1 (by decide)]
    · rfl
  · split
    · split
      · unfold aDoR
        split
        · rw [aGives_1 (by decide), aW_1 (by decide)]
        · rw [aGives_1 (by decide), aSh_27]
      · unfold aDoW aEnds aEndR aEndW
        split
        · split
          · rw [aGives_1 (by decide), aSh_27, aSh_27, aFo_27, aW_1 (by decide), aW_k h, e1, aKills_1 (by decide)]
          · rw [aGives_1 (by decide), aFo_27, aW_1 (by decide), aW_k h, e1, aKills_1 (by decide)]
        · rw [e1, aKills_1 (by decide)]
    · unfold aDoO
      rw [e1, aSend_1 (by decide)]
theorem V_goes (hl : l < 16) : ∀ n a, (a.2 (15 + l)).length < n → FI a → CI a z2 z2 z1 →
    FI (aGoes n a l) ∧ CI (aGoes n a l) z2 z2 z1 ∧ ((aGoes n a l).1 127 l = -1 → (aGoes n a l).2 (15 + l) = []) ∧ (∀ l', ¬ l' = l → (aGoes n a l).1 127 l' = a.1 127 l' ∧ (aGoes n a l).2 (15 + l') = a.2 (15 + l')) := by
  intro n
  induction n with
  | zero => intro a h; omega
  | succ n ih =>
    intro a hn hA hC
    unfold aGoes
    by_cases q : a.1 127 l = -1
    · rw [if_pos q]
      cases hr : a.2 (15 + l) with
      | nil => exact ⟨hA, hC, fun _ => hr, fun l' _ => ⟨rfl, rfl⟩⟩
      | cons mm ms =>
        rw [hr] at hn
        have hn : ms.length + 1 < n + 1 := hn
        obtain ⟨m1, m2, m3, m4⟩ := hA.2.2 (15 + l) (by omega) mm (by rw [hr]; exact List.mem_cons_self)
        have m5 : mm.1 < 3 ∧ mm.2.1 = l := by omega
        have hA2 := FI_pop hr hA
        have hC2 : CI (aL a (15 + l) ms) (if mm.1 < 2 then d2 mm.2.2.1 l else z2) (if mm.1 < 2 then z2 else d2 mm.2.2.1 l) z1 := by
          refine CI_rpop hl hr hC (fun c' l' hc' hl' => ?_) (fun c' l' hc' hl' => ?_)
          · rw [← tokR m5.1 m5.2]
            omega
          · rw [← tokP m5.1 m5.2]
            omega
        obtain ⟨v1, v2⟩ := V_does (a := aL a (15 + l) ms) hl m2 m5.1 m3 q hA2 hC2
        have ho := (hA.2.1 l hl).1.1
        have er : ∀ l', (aDoes (aL a (15 + l) ms) mm.1 l mm.2.2.1 mm.2.2.2).2 (15 + l') = (aL a (15 + l) ms).2 (15 + l') := fun l' => aDoes_q (a := aL a (15 + l) ms) m2 ho (by omega)
        obtain ⟨w1, w2, w3, w4⟩ := ih _ (by rw [er l, aL_e]; omega) v1 v2
        refine ⟨w1, w2, w3, fun l' hne => ?_⟩
        obtain ⟨w5, w6⟩ := w4 l' hne
        rw [w5, w6, aDoes_27 hne, er l', aL_k (by omega)]
        exact ⟨rfl, rfl⟩
    · rw [if_neg q]
      exact ⟨hA, hC, fun g => absurd g q, fun l' _ => ⟨rfl, rfl⟩⟩
/-! how long lists are -/
def sm (f : Nat → Nat) : Nat → Nat
  | 0 => 0
  | n + 1 => sm f n + f n
theorem sm_le {f : Nat → Nat} {B : Nat} : ∀ n, (∀ i, i < n → f i ≤ B) → sm f n ≤ n * B := by
  intro n
  induction n with
  | zero => intro _; exact Nat.zero_le _
  | succ n ih =>
    intro h
    unfold sm
    have := ih (fun i hi => h i (by omega))
    have := h n (by omega)
    rw [Nat.succ_mul]
    omega
theorem sm_add {f g : Nat → Nat} : ∀ n, sm (fun i => f i + g i) n = sm f n + sm g n := by
  intro n
  induction n with
  | zero => rfl
  | succ n ih =>
    unfold sm
    rw [ih]
    omega
theorem sm_d (k : Nat) : ∀ n, sm (fun i => if i = k then 1 else 0) n = if k < n then 1 else 0 := by
  intro n
  induction n with
  | zero => rfl
  | succ n ih =>
    unfold sm
    rw [ih]
    by_cases g : n = k
    · rw [if_pos g, if_neg (by omega), if_pos (by omega)]
    · rw [if_neg g]
      by_cases g2 : k < n
      · rw [if_pos g2, if_pos (by omega)]
      · rw [if_neg g2, if_neg (by omega)]
theorem sm_len {f : aM → Nat} {n : Nat} : ∀ L : List aM, (∀ m, m ∈ L → f m < n) → L.length = sm (fun i => L.countP (fun m => decide (f m = i))) n := by
  intro L
  induction L with
  | nil =>
    intro _
    have := sm_le (f := fun i => ([] : List aM).countP (fun m => decide (f m = i))) (B := 0) n (fun i _ => Nat.le_refl _)
    show 0 = _
    omega
  | cons m L ih =>
    intro h
    have e : (fun i => (m :: L).countP (fun m => decide (f m = i))) = fun i => L.countP (fun m => decide (f m = i)) + (if i = f m then 1 else 0) := by
      funext i
      rw [List.countP_cons]
      congr 1
      by_cases g : f m = i
      · simp [g]
      · simp [g, Ne.symm g]
    rw [e, sm_add, sm_d, if_pos (h m List.mem_cons_self), ← ih (fun m' hm' => h m' (List.mem_cons_of_mem _ hm'))]
    rfl
theorem ws_ls {hR hP : Nat → Nat → Nat} {hW : Nat → Nat} (hc : c < 4) (hl : l < 16) (h : CI a hR hP hW) : aWs a c l + aLs a c l ≤ 1 := by
  obtain ⟨-, -, h3⟩ := h.1 c hc l hl
  unfold aWs aLs
  cases hP : aPl a c l with
  | none =>
    dsimp only
    split <;> omega
  | some p =>
    rw [if_pos (h3 (by rw [hP]; exact fun g => nomatch g))]
    dsimp only
    split <;> omega
theorem due_3 (h : zF a l) : due a l ≤ 3 := by
  unfold due
  rcases h with h | ⟨c, D, hc, h1, h2, h3, h4⟩
  · rw [if_pos h]
    omega
  · have : aNt (Int32.ofNat D) = D := i_tn (by omega)
    rw [h3, this]
    split <;> omega
/-- queues but the home's requests are short -/
theorem V_short {hR hP : Nat → Nat → Nat} {hW : Nat → Nat} (hA : FI a) (hC : CI a hR hP hW) : aQ a 48 := by
  intro q hq hq4
  have hm := hA.2.2 q (by omega)
  have lt : ∀ m, m ∈ a.2 q → m.2.1 < 16 := fun m h => (hm m h).1
  rw [sm_len (f := fun m => m.2.1) (n := 16) (a.2 q) lt]
  by_cases q1 : 5 ≤ q ∧ q < 9 ∨ q = 14
  · refine sm_le (B := 3) 16 (fun l hl => ?_)
    have h1 := hC.2 l hl
    have h2 := due_3 (hA.2.1 l hl).2.2
    have e : (fun m : aM => decide (m.2.1 = l)) = pL l := rfl
    rw [e]
    unfold nFw nFc at h1
    rcases q1 with q1 | q1
    · have : q = 5 + 0 ∨ q = 5 + 1 ∨ q = 5 + 2 ∨ q = 5 + 3 := by omega
      rcases this with g | g | g | g <;> subst g <;> omega
    · subst q1
      omega
  · by_cases q2 : 10 ≤ q ∧ q < 14
    · refine Nat.le_trans (sm_le (B := 1) 16 (fun l hl => ?_)) (by decide)
      obtain ⟨c, hc, e⟩ : ∃ c, c < 4 ∧ q = 10 + c := ⟨q - 10, by omega, by omega⟩
      subst e
      obtain ⟨h1, h2, h3⟩ := hC.1 c hc l hl
      have h4 := ws_ls hc hl hC
      have : (a.2 (10 + c)).countP (fun m : aM => decide (m.2.1 = l)) ≤ (a.2 (10 + c)).countP (pD l) + (a.2 (10 + c)).countP (pN l) := by
        have hk : ∀ m, m ∈ a.2 (10 + c) → m.1 = 6 ∨ m.1 = 7 := fun m h => by have := (hm m h).2.2.2; omega
        generalize a.2 (10 + c) = L at hk
        clear hm lt h1 h2 h3
        induction L with
        | nil => exact Nat.zero_le _
        | cons m L ih =>
          rw [List.countP_cons, List.countP_cons, List.countP_cons]
          have := ih (fun m' h' => hk m' (List.mem_cons_of_mem _ h'))
          have : (if decide (m.2.1 = l) = true then 1 else 0) ≤ (if pD l m = true then 1 else 0) + (if pN l m = true then 1 else 0) := by
            unfold pD pN
            rcases hk m List.mem_cons_self with g | g <;> rw [g] <;> simp
          omega
      unfold nR nP at *
      omega
    · refine Nat.le_trans (sm_le (B := 0) 16 (fun l hl => ?_)) (by decide)
      have : a.2 q = [] := by
        cases e : a.2 q with
        | nil => rfl
        | cons m L =>
          have := (hm m (by rw [e]; exact List.mem_cons_self)).2.2.2
          omega
      rw [this]
      exact Nat.le_refl _
/-- a list of requests, by cores and kinds -/
theorem cnt_req (hk : ∀ m, m ∈ L → m.1 < 3) : L.countP (fun m => decide (m.2.1 = l ∧ m.2.2.1 = c)) = L.countP (pR c l) + L.countP (pP c l) := by
  induction L with
  | nil => rfl
  | cons m L ih =>
    rw [List.countP_cons, List.countP_cons, List.countP_cons, ih (fun m' h' => hk m' (List.mem_cons_of_mem _ h'))]
    have h3 := hk m List.mem_cons_self
    have : (if decide (m.2.1 = l ∧ m.2.2.1 = c) = true then 1 else 0) = (if pR c l m = true then 1 else 0) + (if pP c l m = true then 1 else 0) := by
      unfold pR pP
      have : m.1 < 2 ∧ ¬ m.1 = 2 ∨ ¬ m.1 < 2 ∧ m.1 = 2 := by omega
      rcases this with ⟨g1, g2⟩ | ⟨g1, g2⟩
      · simp [g1, g2]
      · simp [g2]
    omega
/-- a row is short -/
theorem V_row {hR hP : Nat → Nat → Nat} {hW : Nat → Nat} (hl : l < 16) (hc : c < 4) (hA : FI a) (hC : CI a hR hP hW) (ht : 1 ≤ hR c l + hP c l) : (a.2 (15 + l)).length < 4 := by
  have hm := hA.2.2 (15 + l) (by omega)
  rw [sm_len (f := fun m => m.2.2.1) (n := 4) (a.2 (15 + l)) (fun m h => (hm m h).2.1)]
  have e : ∀ c', c' < 4 → (a.2 (15 + l)).countP (fun m => decide (m.2.2.1 = c')) + (if c' = c then 1 else 0) ≤ 1 := by
    intro c' hc'
    have e1 : (a.2 (15 + l)).countP (fun m => decide (m.2.2.1 = c')) = (a.2 (15 + l)).countP (fun m => decide (m.2.1 = l ∧ m.2.2.1 = c')) := by
      refine List.countP_congr (fun m h => ?_)
      have := (hm m h).2.2.2
      have : m.2.1 = l := by omega
      simp [this]
    rw [e1, cnt_req (fun m h => by have := (hm m h).2.2.2; omega)]
    obtain ⟨h1, h2, h3⟩ := hC.1 c' hc' l hl
    have h4 := ws_ls hc' hl hC
    unfold nR nP at *
    by_cases g : c' = c
    · subst g
      rw [if_pos rfl]
      omega
    · rw [if_neg g]
      omega
  have s1 := sm_le (f := fun c' => (a.2 (15 + l)).countP (fun m => decide (m.2.2.1 = c')) + (if c' = c then 1 else 0)) (B := 1) 4 e
  rw [sm_add, sm_d, if_pos hc] at s1
  omega
theorem cnt_key (hk : ∀ m, m ∈ L → m.2.1 < 16) (hl : l < 16) : L.countP (fun m => decide (16 * m.2.2.1 + m.2.1 = 16 * c + l)) = L.countP (fun m => decide (m.2.1 = l ∧ m.2.2.1 = c)) := by
  refine List.countP_congr (fun m h => ?_)
  have := hk m h
  rw [decide_eq_true_eq, decide_eq_true_eq]
  omega
/-- the home's queue of requests has room for what isn't on its way -/
theorem V_q4 {hR hP : Nat → Nat → Nat} {hW : Nat → Nat} (hA : FI a) (hC : CI a hR hP hW) (z : Nat → Nat) (hz : ∀ c l, c < 4 → l < 16 → z (16 * c + l) ≤ 1 - (aWs a c l + aLs a c l)) : (a.2 4).length + sm z 64 ≤ 64 := by
  have hm := hA.2.2 4 (by decide)
  rw [sm_len (f := fun m => 16 * m.2.2.1 + m.2.1) (n := 64) (a.2 4) (fun m h => by have := hm m h; have := this.1; have := (hm m h).2.1; omega), ← sm_add]
  refine Nat.le_trans (sm_le (B := 1) 64 (fun i hi => ?_)) (by decide)
  have ei : i = 16 * (i / 16) + i % 16 := by omega
  have hc : i / 16 < 4 := by omega
  have hl : i % 16 < 16 := by omega
  obtain ⟨h1, h2, h3⟩ := hC.1 (i / 16) hc (i % 16) hl
  have h4 := ws_ls hc hl hC
  have h5 := hz (i / 16) (i % 16) hc hl
  rw [← ei] at h5
  have e1 : (a.2 4).countP (fun m => decide (16 * m.2.2.1 + m.2.1 = i)) = (a.2 4).countP (fun m => decide (16 * m.2.2.1 + m.2.1 = 16 * (i / 16) + i % 16)) := by rw [← ei]
  rw [e1, cnt_key (fun m h => (hm m h).1) hl, cnt_req (fun m h => by have := (hm m h).2.2.2; omega)]
  unfold nR nP at *
  omega
end EPV
