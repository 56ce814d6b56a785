/-! the class's calls: load, store, drain, fence, add, begin, end -/
section EPD
variable {I I' I0 : Nat → Nat → Int32} {J : Nat → Nat → Int64} {a a' b : aS} {r i l q c k n p w z N o : Nat} {v t x y : Int32} {m : aM} {σ : eMem}
/-- which exception: by what the reference says of it -/
def xE3 (t : Int32) : Nat := if t = 1 then 0 else if t = 2 then 1 else 2
def xE2 (t : Int32) : Nat := if t = 1 then 0 else 2
def xEQ (t : Int32) : Nat := if t = 1 then 0 else 1
def xE1 (_ : Int32) : Nat := 0
def xEA (_ : Int32) : Nat := 1
/-- a call of the class -/
def cOp (e : Int32 → Nat) (z : Option ((Nat ⊕ Int32) × eMem)) (I : Nat → Nat → Int32) (J : Nat → Nat → Int64) (o : aR) : Prop :=
  ∃ I', z = some ((if o.1 = 0 then .inr o.2.1 else .inl (e o.1)), (I', J)) ∧ CF I I' o.2.2
theorem CF_s (h : RepC I a) : CF I I a := ⟨h, fun _ _ => rfl⟩
theorem cOp_ok {e : Int32 → Nat} {z : Option ((Nat ⊕ Int32) × eMem)} {o : aR} (ho : o.1 = 0) (h : cOk z I J (.inr o.2.1) o.2.2) : cOp e z I J o := by
  obtain ⟨I1, h1, h2⟩ := h
  exact ⟨I1, by rw [h1, if_pos ho], h2⟩
theorem cOp_th {e : Int32 → Nat} {z : Option ((Nat ⊕ Int32) × eMem)} (E : Nat) (t : Int32) (hz : z = some (.inl E, (I, J))) (ht : ¬ t = 0) (he : e t = E) (h : RepC I a) : cOp e z I J (t, y, a) := by
  refine ⟨I, ?_, CF_s h⟩
  rw [hz, if_neg ht, he]
theorem ni_ok (h : ¬ x < 0) (h2 : x < y) : f_X11_needIndex x y σ = some (.inr (), σ) := by
  unfold f_X11_needIndex
  rw [if_neg h, if_pos h2]
theorem ni_no (h : x < 0 ∨ ¬ x < y) : f_X11_needIndex x y σ = some (.inl 0, σ) := by
  unfold f_X11_needIndex f_X11_needIndex_9
  by_cases g : x < 0
  · rw [if_pos g]
  · rw [if_neg g, if_neg (h.resolve_left g)]
theorem nc_ok (hc : c < 4) : f_X11_needCore (Int32.ofNat c) σ = some (.inr (), σ) := by
  unfold f_X11_needCore
  rw [ni_ok (by rw [i_lt0 (by omega)]; exact not_false) (by rw [show (Int32.ofNat c < 4) = (c < 4) from i_lt (m := 4) (by omega) (by decide)]; exact hc)]
  rfl
theorem nl_ok (hl : l < 16) : f_X11_needLine (Int32.ofNat l) σ = some (.inr (), σ) := by
  unfold f_X11_needLine
  rw [ni_ok (by rw [i_lt0 (by omega)]; exact not_false) (by rw [show (Int32.ofNat l < 16) = (l < 16) from i_lt (m := 16) (by omega) (by decide)]; exact hl)]
  rfl
theorem nlt_of {x y : Int32} (h : y ≤ x) : ¬ x < y := by
  rw [← i_nlt]
  exact h
theorem nc_no (h : x < 0 ∨ 4 ≤ x) : f_X11_needCore x σ = some (.inl 0, σ) := by
  unfold f_X11_needCore
  rw [ni_no (h.imp_right nlt_of)]
  rfl
theorem nl_no (h : x < 0 ∨ 16 ≤ x) : f_X11_needLine x σ = some (.inl 0, σ) := by
  unfold f_X11_needLine
  rw [ni_no (h.imp_right nlt_of)]
  rfl
theorem nw_ok (h : ¬ v < x) (h2 : v ≤ y) : f_X11_needWithin v x y σ = some (.inr (), σ) := by
  unfold f_X11_needWithin
  rw [if_neg h, if_pos h2]
theorem nw_no (h : v < x ∨ ¬ v ≤ y) : f_X11_needWithin v x y σ = some (.inl 1, σ) := by
  unfold f_X11_needWithin f_X11_needWithin_10
  by_cases g : v < x
  · rw [if_pos g]
  · rw [if_neg g, if_neg (h.resolve_left g)]
theorem c_tn (hc : c < 4) : (Int32.ofNat c).toNatClampNeg = c := i_tn (by omega)
theorem c_ix (hc : c < 4) : eix (Int32.ofNat c) 4 = true := i_ix hc (by decide)
/-- a core or a line that there is not -/
theorem two_no (h : (x < 0 ∨ 4 ≤ x) ∨ (y < 0 ∨ 16 ≤ y)) {τ : Type} (K : Unit → eMem → Option ((Nat ⊕ τ) × eMem)) : eThen (f_X11_needCore x σ) (fun _ σ2 => eThen (f_X11_needLine y σ2) K) = some (.inl 0, σ) := by
  rcases h with h | h
  · rw [nc_no h]
    rfl
  · by_cases g : x < 0 ∨ 4 ≤ x
    · rw [nc_no g]
      rfl
    · have g1 : ¬ x < 0 := fun q => g (Or.inl q)
      have g2 : x < 4 := by
        rw [Int32.lt_iff_toInt_lt]
        have : ¬ (4 : Int32) ≤ x := fun q => g (Or.inr q)
        rw [Int32.le_iff_toInt_le] at this
        omega
      unfold f_X11_needCore
      rw [ni_ok g1 g2]
      show eThen (f_X11_needLine y σ) K = _
      rw [nl_no h]
      rfl
theorem ct_load (hc : c < 4) (hl : l < 16) (hB : bF a c) (hT : tF a c) (hS : sF a c) (hg : gF a c) (hF : cF a c) (hN : nF a c) (hu : uF a) (hq : qAsk a c l false) (hq2 : ∀ l', l' < 16 → qAsk (aAsk a c l false).2 c l' false) (hN2 : nF (aAsk a c l false).2 c) (h : RepC I a) :
    cOp xE2 (f_X11_load 2 (Int32.ofNat c) (Int32.ofNat l) (I, J)) I J (aLoad a c l) := by
  have h10 : ¬ (1 : Int32) = 0 := by decide
  have h0 := CF_s h
  cases hf : aFull a c l with
  | true =>
    have e : aLoad a c l = (2, 0, a) := by
      unfold aLoad
      rw [if_pos hf]
    rw [e]
    refine cOp_th 2 2 ?_ (by decide) (by decide) h
    unfold f_X11_load
    simp only [nc_ok hc, nl_ok hl, eThen, eLt, Option.bind_some, ↓reduceIte, K_2, R_2_0, R_2_1, R_2_2, R_2_3, K_57, K_3, K_4, K_23, true_and, and_true, eB, decide_true, decide_false, Bool.or_true, Bool.true_or, not_true_eq_false, not_false_eq_true, c_tn hc, c_ix hc, K_c74 hc, K_c75 hc, K_c76 hc, K_c77 hc, K_c78 hc, K_c79 hc, K_c80 hc, K_c81 hc, R_c hc, R_c1 hc, R_c2 hc, R_c3 hc, R_c4 hc, R_c5 hc, R_c6 hc, R_c8 hc, R_t5 hc, R_t6 hc, cs_adm hc hl hT h0, hf]
  | false =>
    have e : (aLoad a c l).1 = 0 := by
      unfold aLoad
      rw [if_neg (by rw [hf]; decide)]
      split
      · rfl
      · split
        · split
          · split
            · rfl
            · rfl
          · rfl
        · rfl
    refine cOp_ok e ?_
    unfold f_X11_load
    simp only [nc_ok hc, nl_ok hl, eThen, eLt, Option.bind_some, ↓reduceIte, K_2, R_2_0, R_2_1, R_2_2, R_2_3, K_57, K_3, K_4, K_23, true_and, and_true, eB, decide_true, decide_false, Bool.or_true, Bool.true_or, not_true_eq_false, not_false_eq_true, c_tn hc, c_ix hc, K_c74 hc, K_c75 hc, K_c76 hc, K_c77 hc, K_c78 hc, K_c79 hc, K_c80 hc, K_c81 hc, R_c hc, R_c1 hc, R_c2 hc, R_c3 hc, R_c4 hc, R_c5 hc, R_c6 hc, R_c8 hc, R_t5 hc, R_t6 hc, cs_adm hc hl hT h0, hf, Bool.false_eq_true, h10]
    exact c_bind (cs_read0 hc hl hf hB hT hS hg hF hN hu hq hq2 hN2 h0) (fun I1 h1 => c_ret h1)
theorem ct_loadN (hb : (x < 0 ∨ 4 ≤ x) ∨ (y < 0 ∨ 16 ≤ y)) (h : RepC I a) : cOp xE2 (f_X11_load 2 x y (I, J)) I J (1, 0, a) :=
  cOp_th 0 1 (two_no hb _) (by decide) (by decide) h
theorem ct_store (hc : c < 4) (hl : l < 16) (hB : bF a c) (hT : tF a c) (hS : sF a c) (h : RepC I a) : cOp xE3 (f_X11_store 2 (Int32.ofNat c) (Int32.ofNat l) v (I, J)) I J (aStore a c l v) := by
  obtain ⟨n, hn, en, hB2⟩ := hB
  have h10 : ¬ (1 : Int32) = 0 := by decide
  have h0 := CF_s h
  unfold aStore
  by_cases hv : v < 0 ∨ 999 < v
  · rw [if_pos hv]
    refine cOp_th 1 2 ?_ (by decide) (by decide) h
    unfold f_X11_store
    simp only [nc_ok hc, nl_ok hl, eThen, eLt, Option.bind_some, ↓reduceIte, K_2, R_2_0, R_2_1, R_2_2, R_2_3, K_57, K_3, K_4, K_23, true_and, and_true, eB, decide_true, decide_false, Bool.or_true, Bool.true_or, not_true_eq_false, not_false_eq_true, nw_no (hv.imp_right (fun g => by rw [i_nlt]; exact fun k => k g))]
  · have v1 : ¬ v < 0 := fun g => hv (Or.inl g)
    have v2 : v ≤ 999 := by rw [i_nlt]; exact fun g => hv (Or.inr g)
    have n4 : (a.1 142 c = 4) = (n = 4) := by
      rw [en]
      exact i_eq (m := 4) (by omega) (by decide)
    have nn : aNt (Int32.ofNat n) = n := i_tn (by omega)
    rw [if_neg hv]
    by_cases q : a.1 145 c = 0
    · rw [if_pos q]
      by_cases q2 : n = 4
      · rw [if_pos (by rw [n4]; exact q2)]
        refine cOp_th 2 3 ?_ (by decide) (by decide) h
        unfold f_X11_store
        simp only [nc_ok hc, nl_ok hl, eThen, eLt, Option.bind_some, ↓reduceIte, K_2, R_2_0, R_2_1, R_2_2, R_2_3, K_57, K_3, K_4, K_23, true_and, and_true, eB, decide_true, decide_false, Bool.or_true, Bool.true_or, not_true_eq_false, not_false_eq_true, nw_ok v1 v2, c_tn hc, c_ix hc, K_c74 hc, K_c75 hc, K_c76 hc, K_c77 hc, K_c78 hc, K_c79 hc, K_c80 hc, K_c81 hc, R_c hc, R_c1 hc, R_c2 hc, R_c3 hc, R_c4 hc, R_c5 hc, R_c6 hc, R_c8 hc, R_t5 hc, R_t6 hc, cs_room hc hl hn en hT h0, q, q2]
      · rw [if_neg (by rw [n4]; exact q2)]
        refine cOp_ok rfl ?_
        unfold f_X11_store
        simp only [nc_ok hc, nl_ok hl, eThen, eLt, Option.bind_some, ↓reduceIte, K_2, R_2_0, R_2_1, R_2_2, R_2_3, K_57, K_3, K_4, K_23, true_and, and_true, eB, decide_true, decide_false, Bool.or_true, Bool.true_or, not_true_eq_false, not_false_eq_true, nw_ok v1 v2, c_tn hc, c_ix hc, K_c74 hc, K_c75 hc, K_c76 hc, K_c77 hc, K_c78 hc, K_c79 hc, K_c80 hc, K_c81 hc, R_c hc, R_c1 hc, R_c2 hc, R_c3 hc, R_c4 hc, R_c5 hc, R_c6 hc, R_c8 hc, R_t5 hc, R_t6 hc, cs_room hc hl hn en hT h0, q, q2, h10, en, nn, p1]
        exact c_bind (cs_keepB (x := Int32.ofNat l) (v := v) hc (by omega) en q h0) (fun I1 h1 => c_ret h1)
    · rw [if_neg q]
      cases hf : aFull a c l with
      | true =>
        rw [if_pos rfl]
        refine cOp_th 2 3 ?_ (by decide) (by decide) h
        unfold f_X11_store
        simp only [nc_ok hc, nl_ok hl, eThen, eLt, Option.bind_some, ↓reduceIte, K_2, R_2_0, R_2_1, R_2_2, R_2_3, K_57, K_3, K_4, K_23, true_and, and_true, eB, decide_true, decide_false, Bool.or_true, Bool.true_or, not_true_eq_false, not_false_eq_true, nw_ok v1 v2, c_tn hc, c_ix hc, K_c74 hc, K_c75 hc, K_c76 hc, K_c77 hc, K_c78 hc, K_c79 hc, K_c80 hc, K_c81 hc, R_c hc, R_c1 hc, R_c2 hc, R_c3 hc, R_c4 hc, R_c5 hc, R_c6 hc, R_c8 hc, R_t5 hc, R_t6 hc, cs_room hc hl hn en hT h0, q, hf]
      | false =>
        rw [if_neg (by decide)]
        refine cOp_ok rfl ?_
        unfold f_X11_store
        simp only [nc_ok hc, nl_ok hl, eThen, eLt, Option.bind_some, ↓reduceIte, K_2, R_2_0, R_2_1, R_2_2, R_2_3, K_57, K_3, K_4, K_23, true_and, and_true, eB, decide_true, decide_false, Bool.or_true, Bool.true_or, not_true_eq_false, not_false_eq_true, nw_ok v1 v2, c_tn hc, c_ix hc, K_c74 hc, K_c75 hc, K_c76 hc, K_c77 hc, K_c78 hc, K_c79 hc, K_c80 hc, K_c81 hc, R_c hc, R_c1 hc, R_c2 hc, R_c3 hc, R_c4 hc, R_c5 hc, R_c6 hc, R_c8 hc, R_t5 hc, R_t6 hc, cs_room hc hl hn en hT h0, q, hf, h10, Bool.false_eq_true]
        exact c_bind (cs_keepT (v := v) hc hl q hS h0) (fun I1 h1 => c_ret h1)
theorem ct_storeN (hb : (x < 0 ∨ 4 ≤ x) ∨ (y < 0 ∨ 16 ≤ y)) (h : RepC I a) : cOp xE3 (f_X11_store 2 x y v (I, J)) I J (1, 0, a) :=
  cOp_th 0 1 (two_no hb _) (by decide) (by decide) h
theorem ct_drain (hc : c < 4) (hB : bF a c) (hF : cF a c) (hN : nF a c) (hu : uF a) (hq : ∀ l, l < 16 → qAsk a c l true) (h : RepC I a) : cOp xE1 (f_X11_drain 2 (Int32.ofNat c) (I, J)) I J (aDrain a c) := by
  have h0 := CF_s h
  have e : (aDrain a c).1 = 0 ∧ ((aDrain a c).2.1 = 0 ∨ (aDrain a c).2.1 = 1) := by
    unfold aDrain
    split
    · exact ⟨rfl, Or.inl rfl⟩
    · split
      · split
        · exact ⟨rfl, Or.inr rfl⟩
        · exact ⟨rfl, Or.inl rfl⟩
      · exact ⟨rfl, Or.inl rfl⟩
  refine cOp_ok e.1 ?_
  unfold f_X11_drain
  simp only [nc_ok hc, eThen, eLt, Option.bind_some, ↓reduceIte, K_2, R_2_0, R_2_1, R_2_2, R_2_3, K_57, K_3, K_4, K_23, true_and, and_true, eB, decide_true, decide_false, Bool.or_true, Bool.true_or, not_true_eq_false, not_false_eq_true, c_tn hc, c_ix hc, K_c74 hc, K_c75 hc, K_c76 hc, K_c77 hc, K_c78 hc, K_c79 hc, K_c80 hc, K_c81 hc, R_c hc, R_c1 hc, R_c2 hc, R_c3 hc, R_c4 hc, R_c5 hc, R_c6 hc, R_c8 hc, R_t5 hc, R_t6 hc]
  refine c_bind (cs_drain0 hc hB hF hN hu hq h0) (fun I1 h1 => ?_)
  dsimp only
  have g : eB (aDrain a c).2.1 = true := by
    rcases e.2 with q | q <;> rw [q] <;> rfl
  have g2 : (decide ((aDrain a c).2.1 = 0) || decide ((aDrain a c).2.1 = 1)) = true := g
  simp only [g2, ↓reduceIte]
  exact c_ret h1
theorem ct_drainN (hb : x < 0 ∨ 4 ≤ x) (h : RepC I a) : cOp xE1 (f_X11_drain 2 x (I, J)) I J (1, 0, a) := by
  refine cOp_th 0 1 ?_ (by decide) rfl h
  unfold f_X11_drain
  rw [nc_no hb]
  rfl
theorem ct_fence (hc : c < 4) (h : RepC I a) : cOp xE1 (f_X11_fence 2 (Int32.ofNat c) (I, J)) I J (0, (if a.1 142 c = 0 then 1 else 0), a) := by
  have h0 := CF_s h
  refine cOp_ok rfl ?_
  unfold f_X11_fence f_X11_fence_21
  simp only [nc_ok hc, eThen, eLt, Option.bind_some, ↓reduceIte, K_2, R_2_0, R_2_1, R_2_2, R_2_3, K_57, K_3, K_4, K_23, true_and, and_true, eB, decide_true, decide_false, Bool.or_true, Bool.true_or, not_true_eq_false, not_false_eq_true, c_tn hc, c_ix hc, K_c74 hc, K_c75 hc, K_c76 hc, K_c77 hc, K_c78 hc, K_c79 hc, K_c80 hc, K_c81 hc, R_c hc, R_c1 hc, R_c2 hc, R_c3 hc, R_c4 hc, R_c5 hc, R_c6 hc, R_c8 hc, R_t5 hc, R_t6 hc, co_7 hc h0]
  by_cases q : a.1 142 c = 0
  · simp only [q, not_true_eq_false, ↓reduceIte]
    exact c_ret h0
  · simp only [q, not_false_eq_true, ↓reduceIte]
    exact c_ret h0
theorem ct_fenceN (hb : x < 0 ∨ 4 ≤ x) (h : RepC I a) : cOp xE1 (f_X11_fence 2 x (I, J)) I J (1, 0, a) := by
  refine cOp_th 0 1 ?_ (by decide) rfl h
  unfold f_X11_fence
  rw [nc_no hb]
  rfl
theorem ct_add (hc : c < 4) (hl : l < 16) (hF : cF a c) (hN : nF a c) (hu : uF a) (hq : qAsk a c l true) (h : RepC I a) : cOp xE3 (f_X11_add 2 (Int32.ofNat c) (Int32.ofNat l) y (I, J)) I J (aAdd a c l y) := by
  have h10 : ¬ (1 : Int32) = 0 := by decide
  have h0 := CF_s h
  by_cases hv : y < 1 ∨ 9 < y
  · have e : aAdd a c l y = (2, 0, a) := by
      unfold aAdd
      rw [if_pos hv]
    rw [e]
    refine cOp_th 1 2 ?_ (by decide) (by decide) h
    unfold f_X11_add
    simp only [nc_ok hc, nl_ok hl, eThen, eLt, Option.bind_some, ↓reduceIte, K_2, R_2_0, R_2_1, R_2_2, R_2_3, K_57, K_3, K_4, K_23, true_and, and_true, eB, decide_true, decide_false, Bool.or_true, Bool.true_or, not_true_eq_false, not_false_eq_true, nw_no (hv.imp_right (fun g => by rw [i_nlt]; exact fun k => k g))]
  · have v1 : ¬ y < 1 := fun g => hv (Or.inl g)
    have v2 : y ≤ 9 := by rw [i_nlt]; exact fun g => hv (Or.inr g)
    by_cases q : a.1 142 c = 0 ∧ a.1 145 c = 0
    · have e : (aAdd a c l y).1 = 0 := by
        unfold aAdd
        rw [if_neg hv, if_pos q]
        split
        · split
          · rfl
          · rfl
        · rfl
      refine cOp_ok e ?_
      unfold f_X11_add
      simp only [nc_ok hc, nl_ok hl, eThen, eLt, Option.bind_some, ↓reduceIte, K_2, R_2_0, R_2_1, R_2_2, R_2_3, K_57, K_3, K_4, K_23, true_and, and_true, eB, decide_true, decide_false, Bool.or_true, Bool.true_or, not_true_eq_false, not_false_eq_true, nw_ok v1 v2, c_tn hc, c_ix hc, K_c74 hc, K_c75 hc, K_c76 hc, K_c77 hc, K_c78 hc, K_c79 hc, K_c80 hc, K_c81 hc, R_c hc, R_c1 hc, R_c2 hc, R_c3 hc, R_c4 hc, R_c5 hc, R_c6 hc, R_c8 hc, R_t5 hc, R_t6 hc, cs_rest hc h0, q, and_self, h10]
      exact c_bind (cs_addA hc hl hv q hF hN hu hq h0) (fun I1 h1 => c_ret h1)
    · have e : aAdd a c l y = (3, 0, a) := by
        unfold aAdd
        rw [if_neg hv, if_neg q]
      rw [e]
      refine cOp_th 2 3 ?_ (by decide) (by decide) h
      unfold f_X11_add
      simp only [nc_ok hc, nl_ok hl, eThen, eLt, Option.bind_some, ↓reduceIte, K_2, R_2_0, R_2_1, R_2_2, R_2_3, K_57, K_3, K_4, K_23, true_and, and_true, eB, decide_true, decide_false, Bool.or_true, Bool.true_or, not_true_eq_false, not_false_eq_true, nw_ok v1 v2, c_tn hc, c_ix hc, K_c74 hc, K_c75 hc, K_c76 hc, K_c77 hc, K_c78 hc, K_c79 hc, K_c80 hc, K_c81 hc, R_c hc, R_c1 hc, R_c2 hc, R_c3 hc, R_c4 hc, R_c5 hc, R_c6 hc, R_c8 hc, R_t5 hc, R_t6 hc, cs_rest hc h0, q]
theorem ct_addN (hb : (x < 0 ∨ 4 ≤ x) ∨ (y < 0 ∨ 16 ≤ y)) (h : RepC I a) : cOp xE3 (f_X11_add 2 x y v (I, J)) I J (1, 0, a) :=
  cOp_th 0 1 (two_no hb _) (by decide) (by decide) h
theorem ct_begin (hc : c < 4) (h : RepC I a) : cOp xE2 (f_X11_begin 2 (Int32.ofNat c) (I, J)) I J (aBegin a c) := by
  have h10 : ¬ (1 : Int32) = 0 := by decide
  have h0 := CF_s h
  unfold aBegin
  by_cases q : a.1 145 c = 0 ∧ a.1 142 c = 0
  · have q' : a.1 142 c = 0 ∧ a.1 145 c = 0 := ⟨q.2, q.1⟩
    rw [if_pos q]
    refine cOp_ok rfl ?_
    unfold f_X11_begin
    simp only [nc_ok hc, eThen, eLt, Option.bind_some, ↓reduceIte, K_2, R_2_0, R_2_1, R_2_2, R_2_3, K_57, K_3, K_4, K_23, true_and, and_true, eB, decide_true, decide_false, Bool.or_true, Bool.true_or, not_true_eq_false, not_false_eq_true, c_tn hc, c_ix hc, K_c74 hc, K_c75 hc, K_c76 hc, K_c77 hc, K_c78 hc, K_c79 hc, K_c80 hc, K_c81 hc, R_c hc, R_c1 hc, R_c2 hc, R_c3 hc, R_c4 hc, R_c5 hc, R_c6 hc, R_c8 hc, R_t5 hc, R_t6 hc, cs_rest hc h0, q', and_self, h10]
    exact c_bind (cs_open hc h0) (fun I1 h1 => c_ret h1)
  · have q' : ¬ (a.1 142 c = 0 ∧ a.1 145 c = 0) := fun g => q ⟨g.2, g.1⟩
    rw [if_neg q]
    refine cOp_th 2 2 ?_ (by decide) (by decide) h
    unfold f_X11_begin
    simp only [nc_ok hc, eThen, eLt, Option.bind_some, ↓reduceIte, K_2, R_2_0, R_2_1, R_2_2, R_2_3, K_57, K_3, K_4, K_23, true_and, and_true, eB, decide_true, decide_false, Bool.or_true, Bool.true_or, not_true_eq_false, not_false_eq_true, c_tn hc, c_ix hc, K_c74 hc, K_c75 hc, K_c76 hc, K_c77 hc, K_c78 hc, K_c79 hc, K_c80 hc, K_c81 hc, R_c hc, R_c1 hc, R_c2 hc, R_c3 hc, R_c4 hc, R_c5 hc, R_c6 hc, R_c8 hc, R_t5 hc, R_t6 hc, cs_rest hc h0, q']
theorem ct_beginN (hb : x < 0 ∨ 4 ≤ x) (h : RepC I a) : cOp xE2 (f_X11_begin 2 x (I, J)) I J (1, 0, a) := by
  refine cOp_th 0 1 ?_ (by decide) (by decide) h
  unfold f_X11_begin
  rw [nc_no hb]
  rfl
theorem ct_end {P : aS → Prop} (hc : c < 4) (hP : ∀ b l, l < 16 → P b → cF b c ∧ nF b c ∧ tF b c ∧ sF b c ∧ ¬ b.1 145 c = 0 ∧ (aOwd b c l = false → qAsk b c l true ∧ P (aAsk b c l true).2)) (hp : ¬ a.1 145 c = 0 → P a) (hu : uFn a 16) (h : RepC I a) :
    cOp xE2 (f_X11_end 2 (Int32.ofNat c) (I, J)) I J (aEnd a c) := by
  have h0 := CF_s h
  by_cases q : a.1 145 c = 0
  · have e : aEnd a c = (2, 0, a) := by
      unfold aEnd
      rw [if_pos q]
    rw [e]
    refine cOp_th 2 2 ?_ (by decide) (by decide) h
    unfold f_X11_end
    simp only [nc_ok hc, eThen, eLt, Option.bind_some, ↓reduceIte, K_2, R_2_0, R_2_1, R_2_2, R_2_3, K_57, K_3, K_4, K_23, true_and, and_true, eB, decide_true, decide_false, Bool.or_true, Bool.true_or, not_true_eq_false, not_false_eq_true, c_tn hc, c_ix hc, K_c74 hc, K_c75 hc, K_c76 hc, K_c77 hc, K_c78 hc, K_c79 hc, K_c80 hc, K_c81 hc, R_c hc, R_c1 hc, R_c2 hc, R_c3 hc, R_c4 hc, R_c5 hc, R_c6 hc, R_c8 hc, R_t5 hc, R_t6 hc, tx_0 hc h0, q]
  · have e : (aEnd a c).1 = 0 := by
      unfold aEnd
      rw [if_neg q]
      split
      · split
        · rfl
        · rfl
      · rfl
    refine cOp_ok e ?_
    unfold f_X11_end
    simp only [nc_ok hc, eThen, eLt, Option.bind_some, ↓reduceIte, K_2, R_2_0, R_2_1, R_2_2, R_2_3, K_57, K_3, K_4, K_23, true_and, and_true, eB, decide_true, decide_false, Bool.or_true, Bool.true_or, not_true_eq_false, not_false_eq_true, c_tn hc, c_ix hc, K_c74 hc, K_c75 hc, K_c76 hc, K_c77 hc, K_c78 hc, K_c79 hc, K_c80 hc, K_c81 hc, R_c hc, R_c1 hc, R_c2 hc, R_c3 hc, R_c4 hc, R_c5 hc, R_c6 hc, R_c8 hc, R_t5 hc, R_t6 hc, tx_0 hc h0, q]
    exact c_bind (cs_end hc hP q (hp q) hu h0) (fun I1 h1 => c_ret h1)
theorem ct_endN (hb : x < 0 ∨ 4 ≤ x) (h : RepC I a) : cOp xE2 (f_X11_end 2 x (I, J)) I J (1, 0, a) := by
  refine cOp_th 0 1 ?_ (by decide) (by decide) h
  unfold f_X11_end
  rw [nc_no hb]
  rfl
end EPD
