/-! class and reference, call by call, with what is thrown -/
/-- what is thrown is told by what is caught -/
def xOk (e : Int32 → Nat) (t : Int32) : Prop := t = 0 ∨ t = 1 ∨ (t = 2 ∧ ¬ e 2 = e 1) ∨ (t = 3 ∧ ¬ e 3 = e 1 ∧ ¬ e 3 = e 2)
section EPV
variable {a a' b X : aS} {r i l l' q q' c c' k n p p' w z N o D K : Nat} {v t x y s : Int32} {m : aM} {L ms : List aM} {I : Nat → Nat → Int32} {J : Nat → Nat → Int64} {e : Int32 → Nat}
def Bt (e : Int32 → Nat) (F : eMem → Option ((Nat ⊕ Int32) × eMem)) (G : eMem → Option (Int32 × eMem)) (a : aS) (K : Nat) : Prop :=
  ∃ o : aR, (∀ I J, RepC I a → cOp e (F (I, J)) I J o) ∧ (∀ I J, RepR I a → rOp (G (I, J)) I J o) ∧ Inv o.2.2 ∧ uU o.2.2 (K + 400) ∧ xOk e o.1
theorem xo1 : xOk e 1 := Or.inr (Or.inl rfl)
theorem xo3 (h : t = 0 ∨ t = 1 ∨ t = 2 ∨ t = 3) : xOk xE3 t := by
  rcases h with h | h | h | h
  · exact Or.inl h
  · exact Or.inr (Or.inl h)
  · exact Or.inr (Or.inr (Or.inl ⟨h, by decide⟩))
  · exact Or.inr (Or.inr (Or.inr ⟨h, by decide, by decide⟩))
theorem xo2 (h : t = 0 ∨ t = 2) : xOk xE2 t := by
  rcases h with h | h
  · exact Or.inl h
  · exact Or.inr (Or.inr (Or.inl ⟨h, by decide⟩))
theorem aLoad_u : (aLoad a c l).1 = 0 ∨ (aLoad a c l).1 = 2 := by
  unfold aLoad
  repeat' split
  all_goals first | exact Or.inl rfl | exact Or.inr rfl
theorem aBegin_u : (aBegin a c).1 = 0 ∨ (aBegin a c).1 = 2 := by
  unfold aBegin
  repeat' split
  all_goals first | exact Or.inl rfl | exact Or.inr rfl
theorem aEnd_u : (aEnd a c).1 = 0 ∨ (aEnd a c).1 = 2 := by
  unfold aEnd
  repeat' split
  all_goals first | exact Or.inl rfl | exact Or.inr rfl
theorem bt_load (hI : Inv a) (hu : uU a K) (hK : K < 1000000000) : Bt xE2 (f_X11_load 2 x y) (f_X12_load 122 x y) a K := by
  rcases x_two x y with hb | ⟨c, l, hc, hl, e1, e2⟩
  · exact ⟨_, fun I J h => ct_loadN hb h, fun I J h => rs_loadN hb h, hI, uU_le hu (by omega), xo1⟩
  · subst e1 e2
    obtain ⟨h1, h2, h3, h4, h5, h6, h7, h8⟩ := hI.1.1 c hc
    have hA := I_ask (w := false) hc hl hI
    have v := I_load hc hl hI hu
    exact ⟨_, fun I J h => ct_load hc hl h7 h6 h5 (I_gF hc hI) h1 h2 (uU_F hu (by omega)) (I_qAsk hc hl hI) (fun l' hl' => I_qAsk hc hl' hA) (hA.1.1 c hc).2.1 h, fun I J h => rs_load hc hl h1 h7 (by have := I_len4 hI; omega) h, v.1, K4 v.2, (xo2 aLoad_u)⟩
theorem bt_store (hI : Inv a) (hu : uU a K) (hK : K < 1000000000) : Bt xE3 (f_X11_store 2 x y v) (f_X12_store 122 x y v) a K := by
  rcases x_two x y with hb | ⟨c, l, hc, hl, e1, e2⟩
  · exact ⟨_, fun I J h => ct_storeN hb h, fun I J h => rs_storeN hb h, hI, uU_le hu (by omega), xo1⟩
  · subst e1 e2
    obtain ⟨h1, h2, h3, h4, h5, h6, h7, h8⟩ := hI.1.1 c hc
    have v := I_store (v := v) hc hl hI hu
    exact ⟨_, fun I J h => ct_store hc hl h7 h6 h5 h, fun I J h => rs_store hc hl h7 h, v.1, K4 v.2, (xo3 aStore_t)⟩
theorem bt_drain (hI : Inv a) (hu : uU a K) (hK : K < 1000000000) : Bt xE1 (f_X11_drain 2 x) (f_X12_drain 122 x) a K := by
  rcases x_core x with hb | ⟨c, hc, e1⟩
  · exact ⟨_, fun I J h => ct_drainN hb h, fun I J h => rs_drainN hb h, hI, uU_le hu (by omega), xo1⟩
  · subst e1
    obtain ⟨h1, h2, h3, h4, h5, h6, h7, h8⟩ := hI.1.1 c hc
    have v := I_drain hc hI hu
    exact ⟨_, fun I J h => ct_drain hc h7 h1 h2 (uU_F hu (by omega)) (fun l hl => I_qAsk hc hl hI) h, fun I J h => rs_drain hc h1 h7 (by have := I_len4 hI; omega) h, v.1, K4 v.2, Or.inl aDrain_t⟩
theorem bt_fence (hI : Inv a) (hu : uU a K) : Bt xE1 (f_X11_fence 2 x) (f_X12_fence 122 x) a K := by
  rcases x_core x with hb | ⟨c, hc, e1⟩
  · exact ⟨_, fun I J h => ct_fenceN hb h, fun I J h => rs_fenceN hb h, hI, uU_le hu (by omega), xo1⟩
  · subst e1
    exact ⟨_, fun I J h => ct_fence hc h, fun I J h => rs_fence hc h, hI, uU_le hu (by omega), Or.inl rfl⟩
theorem bt_addc (hI : Inv a) (hu : uU a K) (hK : K < 1000000000) : Bt xE3 (f_X11_add 2 x y v) (f_X12_add 122 x y v) a K := by
  rcases x_two x y with hb | ⟨c, l, hc, hl, e1, e2⟩
  · exact ⟨_, fun I J h => ct_addN hb h, fun I J h => rs_addN hb h, hI, uU_le hu (by omega), xo1⟩
  · subst e1 e2
    obtain ⟨h1, h2, h3, h4, h5, h6, h7, h8⟩ := hI.1.1 c hc
    have v' := I_add (y := v) hc hl hI hu
    exact ⟨_, fun I J h => ct_add hc hl h1 h2 (uU_F hu (by omega)) (I_qAsk hc hl hI) h, fun I J h => rs_add hc hl h1 h7 (by have := I_len4 hI; omega) h, v'.1, K4 v'.2, (xo3 aAdd_t)⟩
theorem bt_begin (hI : Inv a) (hu : uU a K) : Bt xE2 (f_X11_begin 2 x) (f_X12_begin 122 x) a K := by
  rcases x_core x with hb | ⟨c, hc, e1⟩
  · exact ⟨_, fun I J h => ct_beginN hb h, fun I J h => rs_beginN hb h, hI, uU_le hu (by omega), xo1⟩
  · subst e1
    obtain ⟨h1, h2, h3, h4, h5, h6, h7, h8⟩ := hI.1.1 c hc
    have v := I_begin hc hI hu
    exact ⟨_, fun I J h => ct_begin hc h, fun I J h => rs_begin hc h7 h, v.1, K4 v.2, (xo2 aBegin_u)⟩
theorem bt_end (hI : Inv a) (hu : uU a K) (hK : K < 1000000000) : Bt xE2 (f_X11_end 2 x) (f_X12_end 122 x) a K := by
  rcases x_core x with hb | ⟨c, hc, e1⟩
  · exact ⟨_, fun I J h => ct_endN hb h, fun I J h => rs_endN hb h, hI, uU_le hu (by omega), xo1⟩
  · subst e1
    obtain ⟨h1, h2, h3, h4, h5, h6, h7, h8⟩ := hI.1.1 c hc
    have v := I_end hc hI hu
    have hu2 : uFn a 16 := by
      obtain ⟨v, g1, g2⟩ := hu
      exact ⟨v, g1, by omega⟩
    refine ⟨_, fun I J h => ct_end (P := fun b => Inv b ∧ ¬ b.1 145 c = 0) hc (fun b l hl hb => ?_) (fun ho => ⟨hI, ho⟩) hu2 h, fun I J h => rs_end hc h1 h5 (by have := I_len4 hI; omega) h, v.1, uU_le v.2 (by omega), (xo2 aEnd_u)⟩
    obtain ⟨g1, g2, g3, g4, g5, g6, g7, g8⟩ := hb.1.1.1 c hc
    refine ⟨g1, g2, g6, g5, hb.2, fun _ => ⟨I_qAsk hc hl hb.1, I_ask hc hl hb.1, ?_⟩⟩
    rw [aAsk_1 (by decide) (by decide) (by decide) (by decide) (by decide) (by decide)]
    exact hb.2
theorem bt_deliver (hI : Inv a) (hu : uU a K) (hK : K < 1000000000) : Bt xE3 (f_X11_deliver 2 x y) (f_X12_deliver 122 x y) a K := by
  rcases x_que x y with hb | ⟨g1, g2, hb⟩ | ⟨w, z, hw, hz, e1, e2⟩
  · exact ⟨_, fun I J h => ct_deliver1 hb h, fun I J h => rs_deliver1 hb h, hI, uU_le hu (by omega), xo1⟩
  · exact ⟨_, fun I J h => ct_deliver2 g1 g2 hb h, fun I J h => rs_deliver2 g1 g2 hb h, hI, uU_le hu (by omega), xo3 (Or.inr (Or.inr (Or.inl rfl)))⟩
  · subst e1 e2
    have hdel := fun m ms (hL : a.2 (5 * w + z) = m :: ms) => V_del hI (uU_F hu (by omega)) (show 5 * w + z < 15 by omega) hL
    have hQ : aQ a 70 := aQ_le (by decide) (V_short hI.1 hI.2.1)
    refine ⟨_, fun I J h => ct_deliver hw hz (fun m ms hL => ⟨(hdel m ms hL).2.1, (hdel m ms hL).2.2.1⟩) h, fun I J h => rs_deliver hw hz (fun m ms hL => (hdel m ms hL).2.2.2.1) hQ h, ?_, ?_, ?_⟩
    · cases hL : a.2 (5 * w + z) with
      | nil => exact hI
      | cons m ms => exact (hdel m ms hL).1
    · cases hL : a.2 (5 * w + z) with
      | nil => exact uU_le hu (by omega)
      | cons m ms => exact uU_le (uU_1 hu (aDel_u hL)) (by omega)
    · cases hL : a.2 (5 * w + z) with
      | nil => exact xo3 (Or.inr (Or.inr (Or.inr rfl)))
      | cons m ms => exact Or.inl rfl
theorem bt_pump (hI : Inv a) (hu : uU a K) (hK : K < 1000000000) : Bt xEA (f_X11_pump 2 x) (f_X12_pump 122 x) a K := by
  by_cases hb : x < 1 ∨ 20 < x
  · exact ⟨_, fun I J h => ct_pumpN hb h, fun I J h => rs_pumpN hb h, hI, uU_le hu (by omega), xo1⟩
  · have h1 : ¬ x < 1 := fun q => hb (Or.inl q)
    have h2 : ¬ 20 < x := fun q => hb (Or.inr q)
    rw [Int32.lt_iff_toInt_lt] at h1 h2
    have t1 : (1 : Int32).toInt = 1 := by decide
    have t2 : (20 : Int32).toInt = 20 := by decide
    rw [t1] at h1
    rw [t2] at h2
    obtain ⟨N, hN, e⟩ := i_in (x := x) (b := 21) (by decide) (by
      rw [Int32.lt_iff_toInt_lt]
      have t0 : (0 : Int32).toInt = 0 := by decide
      rw [t0]
      omega) (by
      rw [Int32.lt_iff_toInt_lt]
      have t3 : (Int32.ofNat 21).toInt = 21 := by decide
      rw [t3]
      omega)
    subst e
    have hN1 : 1 ≤ N := by
      rw [i_ti (by omega)] at h1
      omega
    have hp : dP K 0 a := ⟨hI, hu⟩
    have hc := fun I J (h : RepC I a) => ct_pump (J := J) (dP_2 hK) (show 0 ≤ 100 by decide) hN1 (show N ≤ 20 by omega) hp h
    have hP : dP K (0 + 15 * N) (aPm N (0, a)).2 := P_mN (dP_2 hK) N (0, a) 0 (by omega) hp
    exact ⟨_, fun I J h => (hc I J h).1, fun I J h => rs_pump (dP_1 hK) (show 0 ≤ 100 by decide) hN1 (show N ≤ 20 by omega) hp h, hP.1, uU_le hP.2 (by omega), Or.inl rfl⟩
theorem bt_queued (hI : Inv a) (hu : uU a K) : Bt xEQ (f_X11_queued 2 x y) (f_X12_queued 122 x y) a K := by
  rcases x_que x y with hb | ⟨g1, g2, hb⟩ | ⟨w, z, hw, hz, e1, e2⟩
  · exact ⟨_, fun I J h => ct_queued1 hb h, fun I J h => rs_queued1 hb h, hI, uU_le hu (by omega), xo1⟩
  · exact ⟨_, fun I J h => ct_queued2 g1 g2 hb h, fun I J h => rs_queued2 g1 g2 hb h, hI, uU_le hu (by omega), Or.inr (Or.inr (Or.inl ⟨rfl, by decide⟩))⟩
  · subst e1 e2
    exact ⟨_, fun I J h => ct_queued hw hz h, fun I J h => rs_queued hw hz h, hI, uU_le hu (by omega), Or.inl rfl⟩
theorem bt_stateOf (hI : Inv a) (hu : uU a K) : Bt xE1 (f_X11_stateOf 2 x y) (f_X12_stateOf 122 x y) a K := by
  rcases x_two x y with hb | ⟨c, l, hc, hl, e1, e2⟩
  · exact ⟨_, fun I J h => ct_stateOfN hb h, fun I J h => rs_stateOfN hb h, hI, uU_le hu (by omega), xo1⟩
  · subst e1 e2
    exact ⟨_, fun I J h => ct_stateOf hc hl h, fun I J h => rs_stateOf hc hl (hI.1.1 c hc).1 h, hI, uU_le hu (by omega), Or.inl rfl⟩
theorem bt_valueIn (hI : Inv a) (hu : uU a K) : Bt xE1 (f_X11_valueIn 2 x y) (f_X12_valueIn 122 x y) a K := by
  rcases x_two x y with hb | ⟨c, l, hc, hl, e1, e2⟩
  · exact ⟨_, fun I J h => ct_valueInN hb h, fun I J h => rs_valueInN hb h, hI, uU_le hu (by omega), xo1⟩
  · subst e1 e2
    exact ⟨_, fun I J h => ct_valueIn hc hl (hI.1.1 c hc).1 h, fun I J h => rs_valueIn hc hl (hI.1.1 c hc).1 h, hI, uU_le hu (by omega), Or.inl rfl⟩
theorem bt_home (hI : Inv a) (hu : uU a K) : Bt xE1 (f_X11_home 2 x) (f_X12_home 122 x) a K := by
  rcases x_line x with hb | ⟨l, hl, e1⟩
  · exact ⟨_, fun I J h => ct_homeN hb h, fun I J h => rs_homeN hb h, hI, uU_le hu (by omega), xo1⟩
  · subst e1
    exact ⟨_, fun I J h => ct_home hl h, fun I J h => rs_home hl h, hI, uU_le hu (by omega), Or.inl rfl⟩
theorem bt_owner (hI : Inv a) (hu : uU a K) : Bt xE1 (f_X11_owner 2 x) (f_X12_owner 122 x) a K := by
  rcases x_line x with hb | ⟨l, hl, e1⟩
  · exact ⟨_, fun I J h => ct_ownerN hb h, fun I J h => rs_ownerN hb h, hI, uU_le hu (by omega), xo1⟩
  · subst e1
    exact ⟨_, fun I J h => ct_owner hl h, fun I J h => rs_owner hl h, hI, uU_le hu (by omega), Or.inl rfl⟩
theorem bt_sharers (hI : Inv a) (hu : uU a K) : Bt xE1 (f_X11_sharers 2 x) (f_X12_sharers 122 x) a K := by
  rcases x_line x with hb | ⟨l, hl, e1⟩
  · exact ⟨_, fun I J h => ct_sharersN hb h, fun I J h => rs_sharersN hb h, hI, uU_le hu (by omega), xo1⟩
  · subst e1
    exact ⟨_, fun I J h => ct_sharers hl h, fun I J h => rs_sharers hl h, hI, uU_le hu (by omega), Or.inl rfl⟩
theorem bt_waiting (hI : Inv a) (hu : uU a K) : Bt xE1 (f_X11_waiting 2 x) (f_X12_waiting 122 x) a K := by
  rcases x_line x with hb | ⟨l, hl, e1⟩
  · exact ⟨_, fun I J h => ct_waitingN hb h, fun I J h => rs_waitingN hb h, hI, uU_le hu (by omega), xo1⟩
  · subst e1
    exact ⟨_, fun I J h => ct_waiting hl h, fun I J h => rs_waiting hl h, hI, uU_le hu (by omega), Or.inl rfl⟩
theorem bt_truth (hI : Inv a) (hu : uU a K) : Bt xE1 (f_X11_truth 2 x) (f_X12_truth 122 x) a K := by
  rcases x_line x with hb | ⟨l, hl, e1⟩
  · exact ⟨_, fun I J h => ct_truthN hb h, fun I J h => rs_truthN hb h, hI, uU_le hu (by omega), xo1⟩
  · subst e1
    have ha := I_anF hI
    exact ⟨_, fun I J h => ct_truth hl (hI.1.2.1 l hl).1 ha h, fun I J h => rs_truth hl (hI.1.2.1 l hl).1 (fun c hc => (hI.1.1 c hc).1) (fun m hm => by
      obtain ⟨h1, h2, h3, h4⟩ := ha m hm
      exact ⟨by omega, h2, by omega, h4⟩) h, hI, uU_le hu (by omega), Or.inl rfl⟩
theorem bt_counter (hI : Inv a) (hu : uU a K) : Bt xEA (f_X11_counter 2 x) (f_X12_counter 122 x) a K := by
  by_cases hb : x < 0 ∨ 9 < x
  · exact ⟨_, fun I J h => ct_counterN hb h, fun I J h => rs_counterN hb h, hI, uU_le hu (by omega), xo1⟩
  · obtain ⟨k, hk, e⟩ := i_in (x := x) (b := 10) (by decide) (fun q => hb (Or.inl q)) (by
      have h2 : ¬ 9 < x := fun q => hb (Or.inr q)
      rw [Int32.lt_iff_toInt_lt] at h2 ⊢
      have t1 : (9 : Int32).toInt = 9 := by decide
      have t2 : (Int32.ofNat 10).toInt = 10 := by decide
      rw [t1] at h2
      rw [t2]
      omega)
    subst e
    exact ⟨_, fun I J h => ct_counter hk h, fun I J h => rs_counter hk h, hI, uU_le hu (by omega), Or.inl rfl⟩
end EPV
