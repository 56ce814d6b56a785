/-! the law: what is kept from call to call -/
def LInv (K : Nat) (σ : eMem) : Prop := ∃ a P, RepC σ.1 a ∧ RepR σ.1 a ∧ RPC σ.1 P ∧ PgR σ.1 P ∧ Inv a ∧ uU a K
/-- a call of both: k is told by both, and with 0 the same answer -/
def Okc (f : Int32 → Int64) (L M : eMem → Option (Int32 × eMem)) (σ : eMem) (K : Nat) : Prop :=
  ∃ k b σ1 σ2, L σ = some (k, σ1) ∧ M σ1 = some (b, σ2) ∧ σ2.1 122 32 = k ∧ (k = 0 → σ2.2 161 0 = f b) ∧ LInv (K + 400) σ2
section EPW
variable {a : aS} {P : aP} {K n m k : Nat} {I I' : Nat → Nat → Int32} {J J' : Nat → Nat → Int64} {t v X Y Z W : Int32} {e : Int32 → Nat} {F : eMem → Option ((Nat ⊕ Int32) × eMem)} {L M : eMem → Option (Int32 × eMem)} {σ : eMem} {f : Int32 → Int64} {l : List Nat}
theorem RepC_fr3 {I I' : Nat → Nat → Int32} (h : RepC I a) (e : ∀ r, r < 58 ∨ (74 ≤ r ∧ r < 122) → I' r = I r) : RepC I' a := by
  obtain ⟨h1, h2, h3, h4, h5, h6, h7, h8⟩ := h
  refine ⟨fun l hl => Hm_fr (h1 l hl) (e _ (by omega)) (e _ (by omega)) (fun _ _ _ => rfl) rfl, fun q hq => Ml_fr (h2 q hq) (e _ (by omega)) (by rw [e _ (by omega)]) (by rw [e _ (by omega)]) rfl, fun c p hc hp => Pl_fr (h3 c p hc hp) (fun k _ => by rw [e _ (by omega)]) (fun _ _ _ _ => rfl),
    fun c hc => Us_fr (h4 c hc) (by rw [e _ (by omega)]) (fun p hp => by rw [e _ (by omega)]) (fun _ _ => rfl) (fun _ _ g => g) (us_same rfl), fun c hc => Lv_fr (h5 c hc) (e _ (by omega)) (fun _ _ => rfl), fun c hc => Co_fr (h6 c hc) (fun k _ => by rw [e _ (by omega)]) (e _ (by omega)) (e _ (by omega)) rfl rfl rfl (fun _ _ => ⟨rfl, rfl⟩),
    fun c hc => Tx_fr (h7 c hc) (e _ (by omega)) (e _ (by omega)) (e _ (by omega)) (fun _ _ _ => rfl) (fun _ _ => rfl), fun k hk => by rw [e _ (by omega)]; exact h8 k hk⟩
theorem RPC_fr (h : RPC I P) (e : ∀ r, 58 ≤ r → r < 74 → I' r = I r) : RPC I' P := by
  refine ⟨PgC_fr h.1 (fun r h1 h2 => e r (by omega) (by omega)), ?_, ?_⟩
  · have := h.2.1
    unfold ChC Lst at this ⊢
    rw [e 64 (by decide) (by decide), e 65 (by decide) (by decide)]
    exact this
  · have := h.2.2
    unfold ChC Lst at this ⊢
    rw [e 66 (by decide) (by decide), e 67 (by decide) (by decide)]
    exact this
/-- what a wrapper gives, out of what the class gives -/
def Wrp (e : Int32 → Nat) (f : Int32 → Int64) (F : eMem → Option ((Nat ⊕ Int32) × eMem)) (L : eMem → Option (Int32 × eMem)) : Prop :=
  ∀ I J I' t v, F (I, J) = some ((if t = 0 then .inr v else .inl (e t)), (I', J)) → xOk e t → L (I, J) = some (t, (I', if t = 0 then eup J 161 0 (f v) else J))
theorem okc_B (hW : Wrp e f F L) (hB : Bt e F M a K) (hP : RPC I P) (hQ : PgR I P) (hC : RepC I a) (hR : RepR I a) : Okc f L M (I, J) K := by
  obtain ⟨o, h1, h2, h3, h4, h5⟩ := hB
  obtain ⟨I1, c1, c2, c3⟩ := h1 I J hC
  have hL := hW I J I1 _ _ c1 h5
  obtain ⟨I2, r1, r2, r3, r4, r5⟩ := h2 I1 (if o.1 = 0 then eup J 161 0 (f o.2.1) else J) (RepR_fr hR (fun r _ _ => c3 r (by omega)))
  refine ⟨o.1, o.2.1, _, _, hL, r1, r5, fun h0 => ?_, o.2.2, P, ?_, r2, ?_, ?_, h3, h4⟩
  · show (if o.1 = 0 then eup J 161 0 (f o.2.1) else J) 161 0 = _
    rw [if_pos h0, up_eq]
  · exact RepC_fr c2 (fun r hr => r3 r (Or.inl hr))
  · exact RPC_fr hP (fun r h1 h2 => (r3 r (by omega)).trans (c3 r (by omega)))
  · exact PgR_fr hQ (fun r h1 h2 => (r3 r (by omega)).trans (c3 r (by omega)))
theorem okc_P {P' : aP} (hW : Wrp e f F L) (ht : xOk e t) (hc : cP e (F (I, J)) I J (t, v, P')) (hr : ∀ I' J', PgR I' P → rP (M (I', J')) I' J' (t, v, P')) (hQ : PgR I P) (hC : RepC I a) (hR : RepR I a) (hI : Inv a) (hu : uU a K) : Okc f L M (I, J) K := by
  obtain ⟨I1, c1, c2, c3⟩ := hc
  have hL := hW I J I1 _ _ c1 ht
  have hQ1 : PgR I1 P := PgR_fr hQ (fun r h1 h2 => c3 r (by omega))
  obtain ⟨I2, J2, r1, r2, r3, r4, r5, r6⟩ := hr I1 (if t = 0 then eup J 161 0 (f v) else J) hQ1
  refine ⟨t, v, _, _, hL, r1, r3, fun h0 => ?_, a, P', ?_, ?_, ?_, r2, hI, uU_le hu (by omega)⟩
  · show J2 161 0 = _
    rw [r6 161 (by decide) (by decide), if_pos h0, up_eq]
  · refine RepC_fr3 hC (fun r hr => (r4 r (by omega) (by omega)).trans (c3 r (by omega)))
  · refine RepR_fr2 hR (fun r h1 h2 => (r4 r (by omega) (by omega)).trans (c3 r (by omega))) ?_
    exact (r5 18 (by decide) (by decide) (by decide) (by decide)).trans (by rw [c3 122 (by decide)])
  · exact RPC_fr c2 (fun r h1 h2 => r4 r (by omega) (by omega))
def iL (v : Int32) : Int64 := v.toInt64
def bL (v : Int32) : Int64 := if v = 0 then 0 else 1
theorem W3 {G : eMem → Option (Int32 × eMem)} (hG : ∀ σ, G σ = if (KH 2).1 = 9 then eTry (F σ) (fun E σ3 => if E = 0 then some ((1 : Int32), σ3) else if E = 1 then some ((2 : Int32), σ3) else if E = 2 then some ((3 : Int32), σ3) else none) (fun v1 σ2 => if (KH 161).1 = 12 ∧ eix (0 : Int32) (KH 161).2 = true then eLet ((σ2.1, eup σ2.2 161 (0 : Int32).toNatClampNeg v1.toInt64) : eMem) (fun σ4 => some ((0 : Int32), σ4)) else none) else none) : Wrp xE3 iL F G := by
  intro I J I' t v h ht
  rw [hG, h, if_pos (show (KH 2).1 = 9 from rfl)]
  rcases ht with q | q | ⟨q, _⟩ | ⟨q, _, _⟩
  · subst q
    rfl
  · subst q
    rfl
  · subst q
    rfl
  · subst q
    rfl
theorem W2 {G : eMem → Option (Int32 × eMem)} (hG : ∀ σ, G σ = if (KH 2).1 = 9 then eTry (F σ) (fun E σ3 => if E = 0 then some ((1 : Int32), σ3) else if E = 2 then some ((2 : Int32), σ3) else none) (fun v1 σ2 => if (KH 161).1 = 12 ∧ eix (0 : Int32) (KH 161).2 = true then eLet ((σ2.1, eup σ2.2 161 (0 : Int32).toNatClampNeg v1.toInt64) : eMem) (fun σ4 => some ((0 : Int32), σ4)) else none) else none) : Wrp xE2 iL F G := by
  intro I J I' t v h ht
  rw [hG, h, if_pos (show (KH 2).1 = 9 from rfl)]
  rcases ht with q | q | ⟨q, _⟩ | ⟨q, _, q2⟩
  · subst q
    rfl
  · subst q
    rfl
  · subst q
    rfl
  · exact absurd rfl q2
theorem WQ {G : eMem → Option (Int32 × eMem)} (hG : ∀ σ, G σ = if (KH 2).1 = 9 then eTry (F σ) (fun E σ3 => if E = 0 then some ((1 : Int32), σ3) else if E = 1 then some ((2 : Int32), σ3) else none) (fun v1 σ2 => if (KH 161).1 = 12 ∧ eix (0 : Int32) (KH 161).2 = true then eLet ((σ2.1, eup σ2.2 161 (0 : Int32).toNatClampNeg v1.toInt64) : eMem) (fun σ4 => some ((0 : Int32), σ4)) else none) else none) : Wrp xEQ iL F G := by
  intro I J I' t v h ht
  rw [hG, h, if_pos (show (KH 2).1 = 9 from rfl)]
  rcases ht with q | q | ⟨q, _⟩ | ⟨q, _, q2⟩
  · subst q
    rfl
  · subst q
    rfl
  · subst q
    rfl
  · exact absurd rfl q2
theorem W1 {G : eMem → Option (Int32 × eMem)} (hG : ∀ σ, G σ = if (KH 2).1 = 9 then eTry (F σ) (fun E σ3 => if E = 0 then some ((1 : Int32), σ3) else none) (fun v1 σ2 => if (KH 161).1 = 12 ∧ eix (0 : Int32) (KH 161).2 = true then eLet ((σ2.1, eup σ2.2 161 (0 : Int32).toNatClampNeg v1.toInt64) : eMem) (fun σ4 => some ((0 : Int32), σ4)) else none) else none) : Wrp xE1 iL F G := by
  intro I J I' t v h ht
  rw [hG, h, if_pos (show (KH 2).1 = 9 from rfl)]
  rcases ht with q | q | ⟨q, q2⟩ | ⟨q, _, q2⟩
  · subst q
    rfl
  · subst q
    rfl
  · exact absurd rfl q2
  · exact absurd rfl q2
theorem WA {G : eMem → Option (Int32 × eMem)} (hG : ∀ σ, G σ = if (KH 2).1 = 9 then eTry (F σ) (fun E σ3 => if E = 1 then some ((1 : Int32), σ3) else none) (fun v1 σ2 => if (KH 161).1 = 12 ∧ eix (0 : Int32) (KH 161).2 = true then eLet ((σ2.1, eup σ2.2 161 (0 : Int32).toNatClampNeg v1.toInt64) : eMem) (fun σ4 => some ((0 : Int32), σ4)) else none) else none) : Wrp xEA iL F G := by
  intro I J I' t v h ht
  rw [hG, h, if_pos (show (KH 2).1 = 9 from rfl)]
  rcases ht with q | q | ⟨q, q2⟩ | ⟨q, _, q2⟩
  · subst q
    rfl
  · subst q
    rfl
  · exact absurd rfl q2
  · exact absurd rfl q2
theorem WB {G : eMem → Option (Int32 × eMem)} {H : Nat → Int32 → Int64 → eMem → Option (Int32 × eMem)} (hH : ∀ s σ, H 161 0 s σ = if (KH 161).1 = 12 ∧ eix (0 : Int32) (KH 161).2 = true then eLet ((σ.1, eup σ.2 161 (0 : Int32).toNatClampNeg s) : eMem) (fun σ1 => some ((0 : Int32), σ1)) else none) (hG : ∀ σ, G σ = if (KH 2).1 = 9 then eTry (F σ) (fun E σ3 => if E = 0 then some ((1 : Int32), σ3) else none) (fun v1 σ2 => if v1 = (0 : Int32) then H 161 (0 : Int32) (0 : Int64) σ2 else H 161 (0 : Int32) (1 : Int64) σ2) else none) : Wrp xE1 bL F G := by
  intro I J I' t v h ht
  rw [hG, h, if_pos (show (KH 2).1 = 9 from rfl)]
  rcases ht with q | q | ⟨q, q2⟩ | ⟨q, _, q2⟩
  · subst q
    rw [if_pos rfl, if_pos rfl]
    show (if v = (0 : Int32) then H 161 (0 : Int32) (0 : Int64) (I', J) else H 161 (0 : Int32) (1 : Int64) (I', J)) = _
    unfold bL
    by_cases c : v = 0
    · rw [if_pos c, if_pos c, hH]
      rfl
    · rw [if_neg c, if_neg c, hH]
      rfl
  · subst q
    rfl
  · exact absurd rfl q2
  · exact absurd rfl q2
theorem w_load : Wrp xE2 iL (f_X11_load 2 X Y) (f_L_load 2 X Y 161) := W2 (fun σ => rfl)
theorem w_store : Wrp xE3 iL (f_X11_store 2 X Y Z) (f_L_store 2 X Y Z 161) := W3 (fun σ => rfl)
theorem w_drain : Wrp xE1 bL (f_X11_drain 2 X) (f_L_drain 2 X 161) := WB (H := f_L_drain_15) (fun s σ => rfl) (fun σ => rfl)
theorem w_fence : Wrp xE1 bL (f_X11_fence 2 X) (f_L_fence 2 X 161) := WB (H := f_L_fence_15) (fun s σ => rfl) (fun σ => rfl)
theorem w_add : Wrp xE3 iL (f_X11_add 2 X Y Z) (f_L_add 2 X Y Z 161) := W3 (fun σ => rfl)
theorem w_begin : Wrp xE2 iL (f_X11_begin 2 X) (f_L_begin 2 X 161) := W2 (fun σ => rfl)
theorem w_end : Wrp xE2 iL (f_X11_end 2 X) (f_L_end 2 X 161) := W2 (fun σ => rfl)
theorem w_deliver : Wrp xE3 iL (f_X11_deliver 2 X Y) (f_L_deliver 2 X Y 161) := W3 (fun σ => rfl)
theorem w_pump : Wrp xEA iL (f_X11_pump 2 X) (f_L_pump 2 X 161) := WA (fun σ => rfl)
theorem w_queued : Wrp xEQ iL (f_X11_queued 2 X Y) (f_L_queued 2 X Y 161) := WQ (fun σ => rfl)
theorem w_stateOf : Wrp xE1 iL (f_X11_stateOf 2 X Y) (f_L_stateOf 2 X Y 161) := W1 (fun σ => rfl)
theorem w_valueIn : Wrp xE1 iL (f_X11_valueIn 2 X Y) (f_L_valueIn 2 X Y 161) := W1 (fun σ => rfl)
theorem w_home : Wrp xE1 iL (f_X11_home 2 X) (f_L_home 2 X 161) := W1 (fun σ => rfl)
theorem w_owner : Wrp xE1 iL (f_X11_owner 2 X) (f_L_owner 2 X 161) := W1 (fun σ => rfl)
theorem w_sharers : Wrp xE1 iL (f_X11_sharers 2 X) (f_L_sharers 2 X 161) := W1 (fun σ => rfl)
theorem w_waiting : Wrp xE1 iL (f_X11_waiting 2 X) (f_L_waiting 2 X 161) := W1 (fun σ => rfl)
theorem w_truth : Wrp xE1 iL (f_X11_truth 2 X) (f_L_truth 2 X 161) := W1 (fun σ => rfl)
theorem w_counter : Wrp xEA iL (f_X11_counter 2 X) (f_L_counter 2 X 161) := WA (fun σ => rfl)
theorem w_step : Wrp xE3 iL (f_X11_step 2 X Y Z W) (f_L_step 2 X Y Z W 161) := W3 (fun σ => rfl)
theorem w_outcomes : Wrp xEA iL (f_X11_outcomes 2 X) (f_L_outcomes 2 X 161) := WA (fun σ => rfl)
theorem w_outcome : Wrp xEQ iL (f_X11_outcome 2 X Y) (f_L_outcome 2 X Y 161) := WQ (fun σ => rfl)
theorem w_anew : Wrp xEA iL (f_X11_outcomesAnew 2 X) (f_L_outcomesAnew 2 X 161) := WA (fun σ => rfl)
end EPW
