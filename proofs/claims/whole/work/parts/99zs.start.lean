/-! THE CLAIM OUT OF ONE WALK OF THE LAW'S BODY. Your part is whole_start (and what it stands on); all else here is the same for every law, but numbers. -/
def R_law : String := "HearthCacheLaw"
def lw_P (b : Addr) (xs : List Int32) (args : Array Value) (s : State) : Prop := args = #[.ref b] ∧ s.IntsAt b xs ∧ xs.length ≤ 2560 ∧ (Jvm.Cond.and given_1 narrow_1).before args s = true
def lw_Q (_ : Array Value) (s : State) (o : Outcome) (t : State) : Prop := o = .returned (some (.int 1)) ∧ Framed s o t [] 601024 7293034
def lw_Z (below : List Frame) (a : Array Value) (s : State) : State → Prop := fun t => ∃ o, t.status = .running ∧ Ended t below o ∧ lw_Q a s o t
/-- the law's own end, with 1 on the stack, nothing written that was there before, its room as the claim has it -/
theorem lw_ret {p : Program} {l : Launch} {e : Env} {s : State} {m : MethodId} {below : List Frame} {meth : Method} {c : Code} {b : Nat} (hx : p.tables.exec = Jvm.exec) (hb : c.code = code) (hr : meth.sig.returnType = ret) (hlocks : meth.locks = false) {pc : Nat} {H : Heap} {ls : Array Slot} (hdg : decode code pc = .ok (.ireturn, 1)) : W p l e room_1 s m #[Value.ref b] below meth c H [] 601024 7293034 (lw_Z below #[Value.ref b] s) (F0 m pc ls [.int 1]) := by
  intro T hT X
  obtain ⟨fs, hret, hrun, hended, hW, hframe⟩ := X.leave (v := some (.int 1)) (hlocks := hlocks) (fun h => by rw [hr] at h; cases h)
  have hmeth' : T.vm.method? m = some meth := X.method'
  refine ⟨T.setFrames fs, ?_, .returned (some (.int 1)), hrun, hended, rfl, ⟨_, rfl⟩, hW, hframe⟩
  jvm_step X.here [X.here.top, hx, hb, hdg, hmeth', hr, ret, narrow_b1]
  (try refine ⟨rfl, ?_⟩); (try refine ⟨rfl, ?_⟩)
  first | (intro acts; rw [hret _ acts rfl rfl rfl]) | rw [hret _ _ rfl rfl rfl]
  exact Steps.refl _
/-- what holds at the law's entry: the machine, the code, the tables' words (any of lw_tbl by 'hts w (by decide +kernel)'), the script of L ints xs at the cell b, what the Statement gives of the start (any of its parts by flat_of_before) -/
def lw_At (p : Program) (s : State) (m : MethodId) (meth : Method) (c : Code) (b L : Nat) (xs : Nat → Int32) : Prop :=
  p.tables.exec = Jvm.exec ∧ c.code = code ∧ meth.sig.returnType = ret ∧ c.maxLocals = 7 ∧ s.vm.findClass R_law = some m.cls ∧ (∀ w ∈ lw_tbl, w.before #[Value.ref b] s = true) ∧ va_X b L xs s s.heap ∧ b < s.heap.size ∧ meth.locks = false ∧ (Jvm.Cond.and given_1 narrow_1).before #[Value.ref b] s = true ∧ ∀ x ∈ c.exceptionTable.toList, False
/-! the law from its entry to its end -/
section EZS
theorem wds_app {oc : Nat} {A B : eC} (h1 : ∀ w ∈ eWds oc A, w ∈ eGW) (h2 : ∀ w ∈ eWds oc B, w ∈ eGW) : ∀ w ∈ eWds oc (A ++ B), w ∈ eGW := by
  intro w hw
  unfold eWds at hw h1 h2
  rw [List.flatMap_append, List.mem_append] at hw
  rcases hw with q | q
  · exact h1 w q
  · exact h2 w q
theorem all_app {α : Type} {f : α → Bool} {A B : List α} (h1 : A.all f = true) (h2 : B.all f = true) : (A ++ B).all f = true := by
  rw [List.all_append, h1, h2]
  rfl
theorem law_st : k_L_law.all (eSt cL_law false RL 4) = true := all_app st_L_law_0 (all_app st_L_law_1 (all_app st_L_law_2 (all_app st_L_law_3 (all_app st_L_law_4 (all_app st_L_law_5 (all_app st_L_law_6 (all_app st_L_law_7 (all_app st_L_law_8 (all_app st_L_law_9 (all_app st_L_law_10 (all_app st_L_law_11 (all_app st_L_law_12 (all_app st_L_law_13 (all_app st_L_law_14 st_L_law_15))))))))))))))
theorem law_wm : ∀ w ∈ eWds 13 k_L_law, w ∈ eGW := wds_app wm_L_law_0 (wds_app wm_L_law_1 (wds_app wm_L_law_2 (wds_app wm_L_law_3 (wds_app wm_L_law_4 (wds_app wm_L_law_5 (wds_app wm_L_law_6 (wds_app wm_L_law_7 (wds_app wm_L_law_8 (wds_app wm_L_law_9 (wds_app wm_L_law_10 (wds_app wm_L_law_11 (wds_app wm_L_law_12 (wds_app wm_L_law_13 (wds_app wm_L_law_14 wm_L_law_15))))))))))))))
theorem law_Mk : eMk cL_law false m_L_law := ⟨law_st, law_wm, by decide +kernel⟩
variable {p : Program} {l : Launch} {e : Env} {R : Room} {s : State} {m : MethodId} {args : Array Value} {below : List Frame} {meth : Method} {c9 : Code} {Q : State → Prop}
variable {ex : Bool} {lo b : Nat} {D : va_G} {cy : Nat → ClassId} {md : eM} {sc : Option (Nat × (Nat → Int32))} {cc : ByteArray} {S S' : eS} {d : Nat} {init : Bool}
theorem e_go (hF : eFr p l R s m args meth c9 cc lo b D cy md.2.1 md.2.2.2.1 md.2.2.2.2.1 d md.1 init md.2.2.1 sc md.2.2.2.2.2.1) (hM : eMk cc init md) : ∀ k S S', eGo ex sc md k S = .inl S' → eWat p l e R s m args below meth c9 Q ex lo b D cy md.2.1 md.2.2.2.1 md.2.2.2.2.1 S' → eWat p l e R s m args below meth c9 Q ex lo b D cy md.2.1 md.2.2.2.1 md.2.2.2.2.1 S := by
  intro k
  induction k with
  | zero =>
    intro S S' h H
    have h : Sum.inl S = Sum.inl S' := h
    injection h with h
    rw [h]
    exact H
  | succ k ih =>
    intro S S' h H
    have h1 := e_one (e := e) (below := below) (Q := Q) (ex := ex) (S := S) hF hM
    unfold eGo at h
    generalize stp ex sc md S = o at h h1
    rcases o with S1 | o
    · exact h1 (ih S1 S' h H)
    · exact absurd h (by intro q; cases q)
theorem e_cl (hF : eFr p l R s m args meth c9 cc lo b D cy md.2.1 md.2.2.2.1 md.2.2.2.2.1 d md.1 init md.2.2.1 sc md.2.2.2.2.2.1) (hM : eMk cc init md) {y pc : Nat} {as rest : List eV} {h h' : eH} {ls : eL} {c z w : Nat} {v : Option eV}
    (hs : stp ex sc md S = .inr (.inr (.inl (y, as, h, pc, ls, rest, c, z, w)))) (hc : eCon l ex lo b D cy d y as h (.inl (v, h'))) (H : eWat p l e R s m args below meth c9 Q ex lo b D cy md.2.1 md.2.2.2.1 md.2.2.2.2.1 (pc + 3, ls, v.toList ++ rest, h', c, z)) : eWat p l e R s m args below meth c9 Q ex lo b D cy md.2.1 md.2.2.2.1 md.2.2.2.2.1 S := by
  have h1 := e_one (e := e) (below := below) (Q := Q) (ex := ex) (S := S) hF hM
  rw [hs] at h1
  exact h1 _ hc H
theorem LB_n : (hd LB).1 = 122 := by decide +kernel
theorem LC_n : (hd LC).1 = 161 := by decide +kernel
/-- what the machine's frame condition asks -/
theorem e_Z {σ' : eMem} {locs : List Loc} {H : Heap} {c z : Nat} {g : JFrame} (k : W p l e R s m args below meth c9 H locs c z (eMQ below args s 601024 7293034 false s.heap.size b D cy (cN iI ((1 : Int32), σ'))) g) : W p l e R s m args below meth c9 H locs c z (lw_Z below args s) g := by
  intro T hT X
  obtain ⟨t, a1, o, b1, b2, b3⟩ := k T hT X
  refine ⟨t, a1, o, b1, b2, ?_⟩
  rcases b3 with ⟨⟨c1, c2, c3⟩, L, ⟨c4, c5, c6⟩, c7⟩ | ⟨q, -, E, ce, L, hx, -⟩
  · refine ⟨c1, ⟨_, c1⟩, c5, ?_⟩
    exact State.sameButNew.drop_fresh (L := []) (J := L) c6 c7
  · exact hx.elim
set_option maxRecDepth 20000 in
theorem LB2_k : ((hd LB2).2.1 122).1 = 10 := by decide +kernel
set_option maxRecDepth 20000 in
set_option maxHeartbeats 4000000 in
theorem whole_start {p : Program} {e : Env} {s : State} {m : MethodId} {below : List Frame} {meth : Method} {c : Code} (l : Launch) (hflags : l.flags = flags0) {b L : Nat} {xs : Nat → Int32} (hL : L ≤ 2560) (C0 : lw_At p s m meth c b L xs) : W p l e room_1 s m #[Value.ref b] below meth c s.heap [] 0 0 (lw_Z below #[Value.ref b] s) (entryFrame m ([Value.ref b] : List Value).toArray 7) := by
  obtain ⟨hx, hb, hr, hml, hown, hts, hX, hbl, hlocks, hgv, htab⟩ := C0
  have hl := z_l hflags
  obtain ⟨D, cy, hK⟩ := z_K hts
  have hG := z_G hts hgv hK
  have hF : eFr p l room_1 s m #[Value.ref b] meth c cL_law s.heap.size b D cy m_L_law.2.1 m_L_law.2.2.2.1 m_L_law.2.2.2.2.1 23 m_L_law.1 false m_L_law.2.2.1 (some (L, xs)) m_L_law.2.2.2.2.2.1 :=
    ⟨hx, hb, hl, hml, hlocks, fun w hw => hts w ((List.mem_filter.mp hw).1), hown, hG, Nat.le_refl _, ⟨rfl, rfl, lb rfl, lb rfl⟩, ⟨fun _ => htab, fun pc E hp hq => (by cases hq)⟩, fun X hX' => (by cases hX'; exact ⟨hX, hbl, hbl⟩), (fun h => by cases h), Or.inr (Or.inr (Or.inr (Or.inr ⟨rfl, hr⟩)))⟩
  obtain ⟨σ', hσ⟩ := law_all (xs := xs) hL
  obtain ⟨n, hn⟩ := s_law L xs 5000 0 sg0 160 15962 (lb rfl) (lb rfl) (1, σ') hσ
  have hW := e_run (p := p) (l := l) (e := e) (R := room_1) (s := s) (m := m) (args := #[Value.ref b]) (below := below) (meth := meth) (c9 := c) (ex := false) (md := m_L_law) (Q := eMQ below #[Value.ref b] s 601024 7293034 false s.heap.size b D cy (cN iI ((1 : Int32), σ'))) hF law_Mk (cal := Ew false 23) (e_sound hl eTab 23) rfl _ hn
  refine e_Z (σ' := σ') (b := b) (D := D) (cy := cy) ?_
  have hT : eWat p l e room_1 s m #[Value.ref b] below meth c (eMQ below #[Value.ref b] s 601024 7293034 false s.heap.size b D cy (cN iI ((1 : Int32), σ'))) true s.heap.size b D cy 7 601024 7293034 (23, [(4, .inl 0), (3, .inr (.inr (hd LC).1)), (2, .inr (.inr 122)), (1, .inr (.inr 2)), (0, .inr (.inr 1))], [], hd LD, 160, 15962) := by
    rw [LC_n, LD_is]
    exact fun Ls H locs h1 h2 => hW Ls H locs h1 ⟨h2.1, h2.2.1, h2.2.2.1, fun h => by cases h⟩
  have g3 := e_go (e := e) (below := below) (ex := true) (Q := eMQ below #[Value.ref b] s 601024 7293034 false s.heap.size b D cy (cN iI ((1 : Int32), σ'))) hF law_Mk 6 (15, [(1, .inr (.inr 2)), (0, .inr (.inr 1))], [.inr (.inr 122)], hd LC, 159, 15961) _ rfl hT
  have g2 := e_cl (e := e) (below := below) (ex := true) (Q := eMQ below #[Value.ref b] s 601024 7293034 false s.heap.size b D cy (cN iI ((1 : Int32), σ'))) (S := (12, [(1, .inr (.inr 2)), (0, .inr (.inr 1))], [.inr (.inr 122), .inr (.inr 122)], hd LB2, 121, 3946)) (y := 130) (pc := 12) (as := [.inr (.inr 122)]) (rest := [.inr (.inr 122)]) (h := hd LB2) (h' := hd LC) (ls := [(1, .inr (.inr 2)), (0, .inr (.inr 1))]) (c := 159) (z := 15961) (w := 0) (v := none) hF law_Mk (by
    show (if ((hd LB2).2.1 122).1 = 10 then ecall 601024 7293034 130 (0 + 1) 38 12015 12 [(1, .inr (.inr 2)), (0, .inr (.inr 1))] [.inr (.inr 122), .inr (.inr 122)] (hd LB2) 121 3946 else estk) = _
    rw [if_pos LB2_k]
    rfl) (e_sound hl eTab 23 130 _ _ _ (Ew_le (lb rfl) (s_X12_init 122 LB2 _ LC_is))) g3
  have g2' : eWat p l e room_1 s m #[Value.ref b] below meth c (eMQ below #[Value.ref b] s 601024 7293034 false s.heap.size b D cy (cN iI ((1 : Int32), σ'))) true s.heap.size b D cy 7 601024 7293034 (12, [(1, .inr (.inr 2)), (0, .inr (.inr 1))], [.inr (.inr (hd LB).1), .inr (.inr (hd LB).1)], hd LB2, 121, 3946) := by
    rw [LB_n]
    exact g2
  have g1 := e_go (e := e) (below := below) (ex := true) (Q := eMQ below #[Value.ref b] s 601024 7293034 false s.heap.size b D cy (cN iI ((1 : Int32), σ'))) hF law_Mk 3 (7, [(0, .inr (.inr 1))], [.inr (.inr 2)], hd LB, 120, 3903) _ rfl g2'
  have g0 := e_cl (e := e) (below := below) (ex := true) (Q := eMQ below #[Value.ref b] s 601024 7293034 false s.heap.size b D cy (cN iI ((1 : Int32), σ'))) (S := (4, [(0, .inr (.inr 1))], [.inr (.inr 2), .inr (.inr 2)], hd LA, 1, 8)) (y := 97) (pc := 4) (as := [.inr (.inr 2)]) (rest := [.inr (.inr 2)]) (h := hd LA) (h' := hd LB) (ls := [(0, .inr (.inr 1))]) (c := 120) (z := 3903) (w := 0) (v := none) hF law_Mk rfl (e_sound hl eTab 23 97 _ _ _ (Ew_le (lb rfl) (s_X11_init 2 LA _ LB_is))) g1
  have g00 := e_go (e := e) (below := below) (ex := true) (Q := eMQ below #[Value.ref b] s 601024 7293034 false s.heap.size b D cy (cN iI ((1 : Int32), σ'))) hF law_Mk 2 (0, [(0, .inr (.inr 1))], [], hd [], 0, 0) _ rfl g0
  have h9 := lv_entry ([Value.ref b]) (n := 7) (lb rfl)
  rw [lg_entry_eq]
  exact g00 _ s.heap [] h9 ⟨fun k q h => by simp [eWo, hd] at h, fun r h => absurd (show (99 : Nat) < 18 from h) (by decide), lb rfl, fun _ => rfl⟩ va_S.rf (Nat.zero_le _) (Nat.zero_le _)
end EZS
