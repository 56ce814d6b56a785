/-! the invariant: deliveries -/
section EPV
variable {a a' b X : aS} {r i l l' q q' c c' k n p p' w z N o D : Nat} {v t x y s : Int32} {m : aM} {L ms : List aM}
theorem aFet_1 (h1 : ¬ r = 136) (h2 : ¬ r = 140) (h3 : ¬ r = 153) : (aFet a c l k).1 r = a.1 r := by
  unfold aFet aFetL
  split
  · split
    · exact aW_1 h2
    · split
      · rw [aW_1 h1, aAns_1 h3]
      · split
        · rfl
        · exact aAns_1 h3
  · split
    · rfl
    · exact aAns_1 h3
theorem aFet_row (h : ¬ q = 14) : (aFet a c l k).2 q = a.2 q := by
  unfold aFet aFetL
  split
  · split
    · rfl
    · split
      · rw [aW_2, aAns_2 h]
      · split
        · rfl
        · exact aAns_2 h
  · split
    · rfl
    · exact aAns_2 h
theorem aKil_1 (h1 : ¬ r = 136) (h2 : ¬ r = 139) (h3 : ¬ r = 153) (h4 : ¬ r = 146) : (aKil a c l).1 r = a.1 r := by
  unfold aKil aKilS
  rw [aAns_1 h3]
  split
  · split
    · rw [aW_1 h1, aBrk_1 h4]
    · split
      · rw [aW_1 h2, aBrk_1 h4]
      · exact aBrk_1 h4
  · exact aBrk_1 h4
theorem aKil_row (h : ¬ q = 14) : (aKil a c l).2 q = a.2 q := by
  unfold aKil aKilS
  rw [aAns_2 h]
  split
  · split
    · rw [aW_2, aBrk_2]
    · split
      · rw [aW_2, aBrk_2]
      · rw [aBrk_2]
  · rw [aBrk_2]
theorem aDat_27 {P what : Nat} : (aDat a c l P what n).1 127 = a.1 127 := by
  unfold aDat
  split
  · exact aDatS_1 (by decide) (by decide) (by decide) (by decide) (by decide) (by decide)
  · rw [aFet_1 (by decide) (by decide) (by decide)]
    exact aDatS_1 (by decide) (by decide) (by decide) (by decide) (by decide) (by decide)
theorem aDat_row {P what : Nat} (h : ¬ q = 14) : (aDat a c l P what n).2 q = a.2 q := by
  unfold aDat
  split
  · rfl
  · rw [aFet_row h]
    rfl
theorem aDat_u {P what : Nat} : (aDat a c l P what n).1 122 18 = a.1 122 18 + 1 := by
  unfold aDat
  split
  · exact aDatS_18
  · rw [aFet_1 (by decide) (by decide) (by decide)]
    exact aDatS_18
theorem aCore_27 : (aCore a c m).1 127 = a.1 127 := by
  unfold aCore
  split
  · exact aW_1 (by decide)
  · split
    · split
      · exact aDat_27
      · rfl
    · split
      · exact aKil_1 (by decide) (by decide) (by decide) (by decide)
      · rw [aFet_1 (by decide) (by decide) (by decide), aBrk_1 (by decide)]
theorem aCore_row (h : ¬ q = 14) : (aCore a c m).2 q = a.2 q := by
  unfold aCore
  split
  · rfl
  · split
    · split
      · exact aDat_row h
      · rfl
    · split
      · exact aKil_row h
      · rw [aFet_row h, aBrk_2]
theorem aCore_u : (aCore a c m).1 122 18 = a.1 122 18 ∨ (aCore a c m).1 122 18 = a.1 122 18 + 1 := by
  unfold aCore
  split
  · left
    rw [aW_1 (by decide)]
  · split
    · split
      · exact Or.inr aDat_u
      · exact Or.inl rfl
    · split
      · left
        rw [aKil_1 (by decide) (by decide) (by decide) (by decide)]
      · left
        rw [aFet_1 (by decide) (by decide) (by decide), aBrk_1 (by decide)]
theorem aEnds_r (h : ¬ (123 ≤ r ∧ r ≤ 129)) (h2 : ¬ r = 153) : (aEnds a l).1 r = a.1 r := aEnds_1 (by omega) (by omega) (by omega) (by omega) h2
theorem aDoes_r {kd : Nat} (h : ¬ (123 ≤ r ∧ r ≤ 129)) (h2 : ¬ r = 153) : (aDoes a kd l c n).1 r = a.1 r := by
  unfold aDoes
  split
  · unfold aDoP
    rw [aSend_1 h2]
    split
    · rw [aW_1 (by omega), aW_1 (by omega)]
    · rfl
  · split
    · split
      · unfold aDoR
        split
        · rw [aGives_1 h2, aW_1 (by omega)]
        · rw [aGives_1 h2, aShares_1 (by omega) (by omega) h2]
      · unfold aDoW
        rw [aEnds_r h h2, aWaits_1 (by omega) (by omega) (by omega), aKills_1 h2]
    · unfold aDoO
      rw [aWaits_1 (by omega) (by omega) (by omega), aSend_1 h2]
theorem aGoes_r (h : ¬ (123 ≤ r ∧ r ≤ 129)) (h2 : ¬ r = 153) : ∀ n a, (aGoes n a l).1 r = a.1 r := by
  intro n
  induction n with
  | zero => intro a; rfl
  | succ n ih =>
    intro a
    unfold aGoes
    split
    · split
      · rfl
      · rw [ih, aDoes_r h h2]
        rfl
    · rfl
theorem aReq_r (h : ¬ (123 ≤ r ∧ r ≤ 129)) (h2 : ¬ r = 153) : (aReq a m).1 r = a.1 r := by
  unfold aReq
  rw [aGoes_r h h2]
  rfl
theorem aAnsw_r (h : ¬ (123 ≤ r ∧ r ≤ 129)) (h2 : ¬ r = 153) : (aAnsw a m).1 r = a.1 r := by
  unfold aAnsw aAnsH
  rw [aGoes_r h h2, aEnds_r h h2, aW_1 (by omega)]
  split
  · exact aW_1 (by omega)
  · rfl
theorem aDel_u (h : a.2 q = m :: ms) : (aDel a q).1 122 18 = a.1 122 18 ∨ (aDel a q).1 122 18 = a.1 122 18 + 1 := by
  rw [aDel_cons h]
  unfold aGot
  split
  · left
    rw [aReq_r (by decide) (by decide)]
    rfl
  · split
    · left
      rw [aAnsw_r (by decide) (by decide)]
      rfl
    · exact aCore_u
/-- a message is delivered to a core -/
theorem V_core (hI : Inv a) (hq : q < 15) (hq5 : q % 5 < 4) (hL : a.2 q = m :: ms) : Inv (aCore (aL a q ms) (q % 5) m) ∧
    (((m.1 = 3 ∨ m.1 = 4) ∨ m.1 = 5) ∨ m.1 = 7 ∨ (m.1 = 6 ∧ (m.2.2.1 = 1 ∨ m.2.2.1 = 2 ∨ m.2.2.1 = 3) ∧ ∃ p, aPl (aL a q ms) (q % 5) m.2.1 = some p ∧ aWt ((aL a q ms).1 136 (4 * (q % 5) + p)) = true)) := by
  obtain ⟨hA, hC, hE⟩ := hI
  obtain ⟨hl, hc, hn, hm⟩ := hA.2.2 q (by omega) m (by rw [hL]; exact List.mem_cons_self)
  have hA2 := FI_pop hL hA
  have hE2 : rE (aL a q ms) := by
    intro l hl hb
    rw [aL_k (by omega)]
    exact hE l hl hb
  have fin : ∀ b, FI b ∧ CI b z2 z2 z1 → b = aCore (aL a q ms) (q % 5) m → Inv b := by
    intro b hb e
    refine ⟨hb.1, hb.2, ?_⟩
    rw [e]
    exact rE_of aCore_27 (fun l => aCore_row (by omega)) hE2
  have hdn : ∀ l, d1 l = dn l (0 + 1) := fun l => rfl
  by_cases q1 : q < 9
  · have hmk : 5 ≤ q ∧ (m.1 = 3 ∨ m.1 = 4 ∨ m.1 = 5) := by omega
    have hC2 : CI (aL a q ms) z2 z2 (d1 m.2.1) := by
      refine CI_pop hq hL hC (fun c' l' hc' hl' => Nat.zero_le _) (fun c' l' hc' hl' => Nat.zero_le _) (fun l' hl' => ?_)
      unfold d1 z1
      by_cases g : l' = m.2.1
      · rw [if_pos g, if_pos ⟨Or.inl (by omega), g.symm⟩]
        exact Nat.le_refl _
      · rw [if_neg g]
        exact Nat.zero_le _
    rw [hdn] at hC2
    refine ⟨fin _ ?_ rfl, Or.inl (by omega)⟩
    unfold aCore
    rw [if_neg (by omega), if_neg (by omega)]
    by_cases k5 : m.1 = 5
    · rw [if_pos k5]
      have := V_kil (c := q % 5) hl hq5 hA2 hC2
      rw [dn_0] at this
      exact this
    · rw [if_neg k5]
      obtain ⟨v1, v2⟩ := V_brk (l := m.2.1) (k := m.1) hq5 hA2 hC2
      have := V_fet (k := m.1) hl hq5 (by omega) v1 v2
      rw [dn_0] at this
      exact this
  · have hmk : 10 ≤ q ∧ ((m.1 = 6 ∧ 1 ≤ m.2.2.1) ∨ m.1 = 7) := by omega
    have eq10 : q = 10 + q % 5 := by omega
    rcases hmk.2 with ⟨k6, w1⟩ | k7
    · have hC2 : CI (aL a q ms) (d2 (q % 5) m.2.1) z2 z1 := by
        refine CI_pop hq hL hC (fun c' l' hc' hl' => ?_) (fun c' l' hc' hl' => Nat.zero_le _) (fun l' hl' => Nat.zero_le _)
        unfold d2 z2 pD
        by_cases g : c' = q % 5 ∧ l' = m.2.1
        · rw [if_pos g, if_pos (Or.inr ⟨by omega, by simp [k6, g.2]⟩)]
          exact Nat.le_refl _
        · rw [if_neg g]
          exact Nat.zero_le _
      have hw : m.2.2.1 = 1 ∨ m.2.2.1 = 2 ∨ m.2.2.1 = 3 := by omega
      obtain ⟨p, h1, h2, h3, h4⟩ := V_dat hl hq5 hw hn hA2 hC2
      refine ⟨fin _ ?_ rfl, Or.inr (Or.inr ⟨k6, hw, p, h1, h2⟩)⟩
      unfold aCore
      rw [if_neg (by omega), if_pos k6, h1]
      exact ⟨h3, h4⟩
    · have hC2 : CI (aL a q ms) z2 (d2 (q % 5) m.2.1) z1 := by
        refine CI_pop hq hL hC (fun c' l' hc' hl' => Nat.zero_le _) (fun c' l' hc' hl' => ?_) (fun l' hl' => Nat.zero_le _)
        unfold d2 z2 pN
        by_cases g : c' = q % 5 ∧ l' = m.2.1
        · rw [if_pos g, if_pos (Or.inr ⟨by omega, by simp [k7, g.2]⟩)]
          exact Nat.le_refl _
        · rw [if_neg g]
          exact Nat.zero_le _
      refine ⟨fin _ ?_ rfl, Or.inr (Or.inl k7)⟩
      unfold aCore
      rw [if_pos k7]
      exact ⟨FI_lv hq5 hl (Or.inl rfl) hA2, CI_done hq5 hl hC2⟩
theorem mF_q9 (h : mF 9 m) : False := by
  obtain ⟨h1, h2, h3, h4⟩ := h
  omega
theorem mF_10 (h : mF q m) : m.1 < 10 := by
  obtain ⟨h1, h2, h3, h4⟩ := h
  omega
theorem aQ_pop {M : Nat} (hL : a.2 q = m :: ms) (h : aQ a M) : aQ (aL a q ms) M := by
  intro s h1 h2
  have := h s h1 h2
  by_cases g : s = q
  · subst g
    rw [hL] at this
    rw [aL_e]
    have : ms.length + 1 ≤ M := this
    omega
  · rw [aL_k g]
    exact this
theorem aQ_le {M M' : Nat} (h : M ≤ M') (hq : aQ a M) : aQ a M' := fun s h1 h2 => Nat.le_trans (hq s h1 h2) h
/-- a message is delivered: all that is asked for -/
theorem V_del (hI : Inv a) (hu : uF a) (hq : q < 15) (hL : a.2 q = m :: ms) : Inv (aDel a q) ∧ kD (aL a q ms) q m ∧ aQ (aL a q ms) 49 ∧ qD (aL a q ms) q m ∧ aQ a 70 := by
  have hI0 := hI
  obtain ⟨hA, hC, hE⟩ := hI
  have hmf := hA.2.2 q (by omega) m (by rw [hL]; exact List.mem_cons_self)
  have h10 := mF_10 hmf
  obtain ⟨hl, hc, hn, hm⟩ := hmf
  have hA2 := FI_pop hL hA
  have hQ := V_short hA hC
  have hQ2 := aQ_le (show 48 ≤ 49 by decide) (aQ_pop hL hQ)
  obtain ⟨f1, f2, f3⟩ := hA2.2.1 m.2.1 hl
  have hrv : roV (aL a q ms) m.2.1 := by
    intro m' hm'
    obtain ⟨g1, g2, g3, g4⟩ := hA2.2.2 (15 + m.2.1) (by omega) m' hm'
    exact ⟨by omega, g1, g2, g3⟩
  have hrl : roL (aL a q ms) m.2.1 := by
    intro m' hm'
    obtain ⟨g1, g2, g3, g4⟩ := hA2.2.2 (15 + m.2.1) (by omega) m' hm'
    omega
  have hmo : mOk m := ⟨by omega, hl, by omega, hn⟩
  have erow : (aL a q ms).2 (15 + m.2.1) = a.2 (15 + m.2.1) := aL_k (by omega)
  have hrow4 : (a.2 (15 + m.2.1)).length ≤ 4 := by
    have e : ∀ c', c' < 4 → (a.2 (15 + m.2.1)).countP (fun m => decide (m.2.2.1 = c')) ≤ 1 := by
      intro c' hc'
      have hmr := hA.2.2 (15 + m.2.1) (by omega)
      have e1 : (a.2 (15 + m.2.1)).countP (fun m => decide (m.2.2.1 = c')) = (a.2 (15 + m.2.1)).countP (fun m' => decide (m'.2.1 = m.2.1 ∧ m'.2.2.1 = c')) := by
        refine List.countP_congr (fun m' h => ?_)
        have := (hmr m' h).2.2.2
        have : m'.2.1 = m.2.1 := by omega
        simp [this]
      rw [e1, cnt_req (fun m' h => by have := (hmr m' h).2.2.2; omega)]
      obtain ⟨h1, h2, h3⟩ := hC.1 c' hc' m.2.1 hl
      have h4 := ws_ls hc' hl hC
      unfold nR nP at *
      omega
    rw [sm_len (f := fun m => m.2.2.1) (n := 4) (a.2 (15 + m.2.1)) (fun m' h => (hA.2.2 (15 + m.2.1) (by omega) m' h).2.1)]
    exact sm_le (B := 1) 4 e
  rw [aDel_cons hL]
  by_cases q5 : q % 5 < 4
  · obtain ⟨v1, v2⟩ := V_core hI0 hq q5 hL
    obtain ⟨c1, c2, c3, c4, c5, c6, c7, c8⟩ := hA2.1 (q % 5) q5
    have eg : aGot (aL a q ms) q m = aCore (aL a q ms) (q % 5) m := by
      unfold aGot
      rw [if_neg (by omega), if_neg (by omega)]
    rw [eg]
    refine ⟨v1, ⟨h10, hl, hc, hn, Or.inl ⟨q5, hmo, c1, c2, c4, c5, hu, ?_⟩⟩, hQ2, ⟨hmo, Or.inr ⟨q5, c1, c4, c6.2.1, ?_⟩⟩, aQ_le (by decide) hQ⟩
    · rcases v2 with g | g | ⟨g1, g2, p, g3, g4⟩
      · exact Or.inl g
      · exact Or.inr (Or.inl g)
      · exact Or.inr (Or.inr ⟨g1, g2, p, g3, g4, c3 p (aPl_lt g3).1⟩)
    · rcases v2 with g | g | ⟨g1, g2, p, g3, g4⟩
      · exact Or.inl g
      · exact Or.inr (Or.inl g)
      · exact Or.inr (Or.inr ⟨g1, g2, p, g3, c3 p (aPl_lt g3).1⟩)
  · have hq3 : q = 4 ∨ q = 14 := by omega
    rcases hq3 with e | e
    · subst e
      obtain ⟨v1, v2, v3, v4⟩ := V_req hI0 hL
      have eg : aGot (aL a 4 ms) 4 m = aReq (aL a 4 ms) m := by
        unfold aGot
        rw [if_pos rfl]
      rw [eg]
      refine ⟨v1, ⟨h10, hl, hc, hn, Or.inr (Or.inl ⟨rfl, v2, f1, f2, by rw [v3]; exact v4, fun hb => ?_⟩)⟩, hQ2, ⟨hmo, Or.inl ⟨rfl, f1, hrv, by rw [v3]; omega, Or.inl ⟨rfl, v2, hc⟩⟩⟩, aQ_le (by decide) hQ⟩
      rw [v3]
      exact hE _ hl hb
    · subst e
      obtain ⟨v1, v2, v3⟩ := V_ans hI0 hL
      have eg : aGot (aL a 14 ms) 14 m = aAnsw (aL a 14 ms) m := by
        unfold aGot
        rw [if_neg (by decide), if_pos rfl]
      rw [eg]
      refine ⟨v1, ⟨h10, hl, hc, hn, Or.inr (Or.inr ⟨rfl, v2, v3, f1, f2, hrv, hrl⟩)⟩, hQ2, ⟨hmo, Or.inl ⟨rfl, f1, hrv, by rw [erow]; omega, Or.inr ⟨rfl, v2, ?_⟩⟩⟩, aQ_le (by decide) hQ⟩
      obtain ⟨c, D, g1, g2, g3, g4, g5, g6⟩ := v3
      refine ⟨c, g1, g2, fun g => ?_⟩
      rcases g6 with ⟨-, g6⟩ | g6
      · exact g6
      · rw [g6] at g
        exact absurd g (by decide)
/-- how much was used -/
def uU (a : aS) (k : Nat) : Prop := ∃ v, a.1 122 18 = Int32.ofNat v ∧ v ≤ k
theorem uU_F (h : uU a k) (hk : k < 1900000000) : uF a := by
  obtain ⟨v, h1, h2⟩ := h
  exact ⟨v, h1, by omega⟩
theorem uU_le (h : uU a k) (hk : k ≤ n) : uU a n := by
  obtain ⟨v, h1, h2⟩ := h
  exact ⟨v, h1, by omega⟩
theorem uU_1 (h : uU a k) (e : b.1 122 18 = a.1 122 18 ∨ b.1 122 18 = a.1 122 18 + 1) : uU b (k + 1) := by
  obtain ⟨v, h1, h2⟩ := h
  rcases e with e | e
  · exact ⟨v, e.trans h1, by omega⟩
  · exact ⟨v + 1, e.trans (i_ad1 h1), by omega⟩
def dP (B : Nat) (u : Nat) (a : aS) : Prop := Inv a ∧ uU a (B + u)
theorem dP_2 {B : Nat} (hB : B < 1000000000) : dOk2 (dP B) := by
  refine ⟨fun u hu a q m ms h hq hL => ?_, fun u hu a h => ⟨h.1, uU_le h.2 (by omega)⟩⟩
  obtain ⟨v1, v2, v3, v4, v5⟩ := V_del h.1 (uU_F h.2 (by omega)) hq hL
  exact ⟨v2, v3, v1, uU_1 h.2 (aDel_u hL)⟩
theorem dP_1 {B : Nat} (hB : B < 1000000000) : dOk (dP B) := by
  refine ⟨fun u hu a q m ms h hq hL => ?_, fun u hu a h => ⟨h.1, uU_le h.2 (by omega)⟩⟩
  obtain ⟨v1, v2, v3, v4, v5⟩ := V_del h.1 (uU_F h.2 (by omega)) hq hL
  exact ⟨v4, v5, v1, uU_1 h.2 (aDel_u hL)⟩
end EPV
