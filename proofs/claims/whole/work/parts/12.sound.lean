/-! the world around; calls; throws -/
def eNW : List Jvm.Cond := [.methodLinkNest RX11 15 yX3_init RX11, .methodLinkNest RX11 37 yX8_init RX11, .methodLinkNest RX11 44 yX6_init RX11, .methodLinkNest RX11 54 yX5_init RX11, .methodLinkNest RX11 252 yX9_explore RX11, .methodLinkNest RX0 33 yX10_init RX11, .methodLinkNest RX0 57 yX7_init RX11, .methodLinkNest RX1 25 yX2_init RX11, .methodLinkNest RX5 24 yX6_init RX11, .castable "java/lang/IndexOutOfBoundsException" "java/lang/IndexOutOfBoundsException", .castable "java/lang/IllegalArgumentException" "java/lang/IllegalArgumentException", .castable "java/lang/IllegalStateException" "java/lang/IllegalStateException", .declares ⟨"java/lang/RuntimeException", "<init>", "(Ljava/lang/String;)V"⟩, .declares ⟨"java/lang/Exception", "<init>", "(Ljava/lang/String;)V"⟩, .declares ⟨"java/lang/Throwable", "<init>", "(Ljava/lang/String;)V"⟩]
def eNP : List (String × String) := [("java/lang/IndexOutOfBoundsException", "java/lang/IllegalArgumentException"), ("java/lang/IndexOutOfBoundsException", "java/lang/IllegalStateException"), ("java/lang/IllegalArgumentException", "java/lang/IndexOutOfBoundsException"), ("java/lang/IllegalArgumentException", "java/lang/IllegalStateException"), ("java/lang/IllegalStateException", "java/lang/IndexOutOfBoundsException"), ("java/lang/IllegalStateException", "java/lang/IllegalArgumentException")]
def eEN : List String := ["java/lang/RuntimeException", "java/lang/Exception"]
def eG (lo : Nat) (D : va_G) (cy : Nat → ClassId) (U : State) (H : Heap) : Prop :=
  va_K D vwCl (eTys cy) U ∧ (∀ w ∈ eNW, va_Nw w U) ∧ (∀ q ∈ eTx, ∃ sa, vk_R RX11 q.1 q.2 sa U) ∧ (∀ q ∈ eNP, va_Nc q.1 q.2 U) ∧ (va_AO RX0 U ∧ va_AO RX2 U ∧ va_AO RX7 U ∧ va_AOA .int U) ∧
  vx_Zq Bundle.tN "UNASSIGNED_STACK" Bundle.steD (fun q => lo ≤ q) U H ∧ vx_Zq Bundle.tN "SUPPRESSED_SENTINEL" Bundle.listD (fun q => lo ≤ q) U H
theorem va_AOA.moved {ty : FieldType} {u U : State} (hvm : u.vm.Alike U.vm) (h : va_AOA ty u) : va_AOA ty U := arrayOver_alikeB hvm h
theorem eNW_warm {s U : State} (hW : s.WarmedH U.vm) : ∀ w ∈ eNW, va_Nw w s → va_Nw w U := by
  intro w hw h
  simp only [eNW, List.mem_cons, List.not_mem_nil, or_false] at hw
  rcases hw with rfl | rfl | rfl | rfl | rfl | rfl | rfl | rfl | rfl | rfl | rfl | rfl | rfl | rfl | rfl <;> first | exact va_Nw.warmM hW h | exact va_Nw.warmC hW h | exact va_Nw.warmD hW h
theorem eG.warm {lo : Nat} {D : va_G} {cy : Nat → ClassId} {s U : State} {H : Heap} {locs : List Loc} (hW : s.WarmedH U.vm) (hG : eG lo D cy s s.heap) (hS : va_S (fun q => lo ≤ q) s.heap H locs) : eG lo D cy U H := by
  obtain ⟨g1, g2, g3, g4, ⟨g5, g6, g7, g8⟩, g9, g10⟩ := hG
  exact ⟨va_K.moved hW.alike g1, fun w hw => eNW_warm hW w hw (g2 w hw), fun q hq => (g3 q hq).elim fun sa h => ⟨sa, vk_R.warm hW h⟩, fun q hq => va_Nc.moved hW.alike (g4 q hq), ⟨va_AO.moved hW.alike g5, va_AO.moved hW.alike g6, va_AO.moved hW.alike g7, va_AOA.moved hW.alike g8⟩,
    vx_Zq.moved hW.alike (g9.kept hS.2.1), vx_Zq.moved hW.alike (g10.kept hS.2.1)⟩
/-- what a method is called with -/
def eP (ex : Bool) (lo b : Nat) (D : va_G) (cy : Nat → ClassId) (as : List eV) (h : eH) : Array Value → State → Prop := fun v U => v = (as.map (eVal lo b)).toArray ∧ eRel ex D cy lo b h U.heap ∧ eG lo D cy U U.heap ∧ lo ≤ U.heap.size
theorem eP_blind {ex : Bool} {lo b : Nat} {D : va_G} {cy : Nat → ClassId} {as : List eV} {h : eH} : FrameBlind (eP ex lo b D cy as h) := fun a U g mk hp => ⟨hp.1, hp.2.1, eG.warm (U := U.calling g mk a) (State.WarmedH.refl U) hp.2.2.1 va_S.rf, hp.2.2.2⟩
def eRm (d mc ms : Nat) : Room := { frames := d + 12, cells := mc, slots := ms, locals := 45 * d + 400 }
/-- the contract: called with as in the heap h, the method ends as o says -/
def eCon (l : Launch) (ex : Bool) (lo b : Nat) (D : va_G) (cy : Nat → ClassId) (d y : Nat) (as : List eV) (h : eH) (o : eR) : Prop :=
  ∃ md, mt y = some md ∧ vx_Met l (eYn y) (eWs y) (eRm d md.2.2.2.1 md.2.2.2.2.1) (eP ex lo b D cy as h) (eQc ex lo b D cy o) (eXc ex lo b D cy o) md.2.2.2.1 md.2.2.2.2.1 (fun q => lo ≤ q)
theorem eGW_good {w : Jvm.Cond} (h : w ∈ eGW) : (w.onTables && w.keeps) = true ∨ ∃ ty, w = .arrayClass ty := good_of_word (List.mem_filter.mp h).2
def eCf (a : Nat) : Bool := match eCW a with
  | .code y' _ mL _ => decide (y' = eYn a) && decide (mL ≤ 20)
  | .codeWith y' _ mL _ _ => decide (y' = eYn a) && decide (mL ≤ 20) && decide (205 < a)
  | _ => false
theorem eCf_all : (List.range 228).all eCf = true := by decide +kernel
theorem eCf_of {a : Nat} {md : eM} (h : mt a = some md) : eCf a = true := by
  refine List.all_eq_true.mp eCf_all a (List.mem_range.mpr ?_)
  exact (List.getElem?_eq_some_iff.mp h).1
section EST5
variable {p : Program} {l : Launch} {e : Env} {R : Room} {s : State} {m : MethodId} {args : Array Value} {below : List Frame} {meth : Method} {c9 : Code} {Q : State → Prop}
variable {ex : Bool} {lo b : Nat} {D : va_G} {cy : Nat → ClassId} {maxL mc ms : Nat} {cal : Nat → List eV → eH → eR → Prop} {md : eM}
variable {sc : Option (Nat × (Nat → Int32))} {rt a1 a2 a3 a4 a5 a6 : Nat} {pc : Nat} {ls : eL} {st : List eV} {h : eH} {c z : Nat} {cc : ByteArray} {S : eS} {k : eO}
variable {d oc : Nat} {idx : Nat}

theorem e_room {t : List eV} {g : JFrame} (hg : g.monitorRoom = 0) (h : ecats t ≤ 8) : 2 * g.monitorRoom + ((t.map (eVal lo b)).map fun v => v.category).sum ≤ 8 := by
  rw [ecats_sum, hg]
  omega
theorem e_split {st : List eV} {n r : Nat} {t : List eV} (h : st.drop n = .inr (.inr r) :: t) : (st.take (n + 1)).reverse = .inr (.inr r) :: (st.take n).reverse ∧ st.drop (n + 1) = t ∧ st = st.take n ++ .inr (.inr r) :: t ∧ (st.take n).length = n := by
  have h1 : st = st.take n ++ .inr (.inr r) :: t := by rw [← h, List.take_append_drop]
  have hl : n < st.length := by
    rcases Nat.lt_or_ge n st.length with q | q
    · exact q
    · rw [List.drop_eq_nil_of_le q] at h; cases h
  have h2 : (st.take n).length = n := by rw [List.length_take]; omega
  refine ⟨?_, ?_, h1, h2⟩
  · have : st.take (n + 1) = st.take n ++ [.inr (.inr r)] := by
      rw [List.take_succ, ← List.head?_drop, h]
      rfl
    rw [this, List.reverse_append]
    rfl
  · rw [← List.tail_drop, h]
    rfl
theorem eCe_spec {a n f g : Nat} {mda : eM} (h : eCe a n f g = true) (hm : mt a = some mda) : (parseMethodDescriptor (eYn a).desc).map (fun q => q.parameters.length) = some n ∧ ((eYn a).cls ≠ "java/lang/invoke/MethodHandle" ∧ (eYn a).cls ≠ "java/lang/invoke/VarHandle") ∧ mda.2.2.2.1 = f ∧ mda.2.2.2.2.1 = g := by
  unfold eCe at h
  rw [hm] at h
  simp only [Bool.and_eq_true, decide_eq_true_eq] at h
  exact ⟨h.1.1.1, ⟨h.1.1.2, h.1.2⟩, h.2.1.1, h.2.1.2⟩
theorem e_len {a n : Nat} (h : (parseMethodDescriptor (eYn a).desc).map (fun q => q.parameters.length) = some n) : ∀ sig, parseMethodDescriptor (eYn a).desc = some sig → n = sig.parameters.length := by
  intro sig hs
  rw [hs] at h
  exact (Option.some.inj h).symm
theorem e_pay {a : Nat} (hts : ∀ w ∈ eGW, w.before args s = true) (hc : eCW a ∈ eGW) : ∀ w ∈ eWs a, ∀ (a' : Array Value) (U : State), s.WarmedH U.vm → w.before a' U = true := by
  intro w hw a' U hW
  have hm : w ∈ eGW := by
    rcases List.mem_cons.mp hw with rfl | q
    · exact hc
    · exact q
  exact word_at hW (eGW_good hm) (hts w hm)
/-- a call with a receiver: what it needs of the callee -/
theorem e_callB {a n f g : Nat} {mda : eM} {bytes : ByteArray} {mL : Nat} {ret : Option FieldType} (hts : ∀ w ∈ eGW, w.before args s = true) (hR : R.cells = mc ∧ R.slots = ms ∧ d + 13 ≤ R.frames ∧ 45 * d + 445 ≤ R.locals) (hm : mt a = some mda) (he : eCe a n f g = true) (hcw : eCW a = .code (eYn a) bytes mL ret) (hmL : mL ≤ 20)
    (hlink : Jvm.Cond.methodLink (eRNm oc) idx (eYn a) ∈ eGW) (hini : Jvm.Cond.initialized (eYn a).cls ∈ eGW) (hc : eCW a ∈ eGW) :
    CallB R s args (eRNm oc) idx (eYn a) bytes mL ret (eWs a) (eRm d mda.2.2.2.1 mda.2.2.2.2.1) mda.2.2.2.1 mda.2.2.2.2.1 n := by
  obtain ⟨s1, s2, s3, s4⟩ := eCe_spec he hm
  refine ⟨rfl, rfl, ?_, ?_, e_pay hts hc, ?_, ?_, hts _ hini, s2, e_len s1, hts _ hlink⟩
  · show d + 12 + 1 ≤ _; omega
  · show 8 + (mL + 11) + (45 * d + 400) ≤ _; omega
  · rw [← hcw]; exact List.mem_cons_self
  · rw [← hcw]; exact hts _ hc
theorem k_invokevirtual (hx : p.tables.exec = Jvm.exec) (hb : c9.code = cc) (hml : c9.maxLocals = maxL) (hlocks : meth.locks = false) (hts : ∀ w ∈ eGW, w.before args s = true) (hown : s.vm.findClass (eRNm oc) = some m.cls) (hG : eG lo D cy s s.heap) (hlo : lo ≤ s.heap.size) (hR : R.cells = mc ∧ R.slots = ms ∧ d + 13 ≤ R.frames ∧ 45 * d + 445 ≤ R.locals) (hmd : md.2.1 = maxL) (hhan : eHan s args c9 (eRNm oc) md.2.2.2.2.2.1)
    (hdec : ∀ q i a, elk md.2.2.2.2.2.2 q = some (i, a) → ((∃ n, i = .astore_n n) → decode cc q = .ok (i, 1)) ∧ ((∃ n, i = .astore n) → decode cc q = .ok (i, 2)))
    (hwd : ∀ w ∈ eWd oc (.invokevirtual idx, a1, a2, a3, a4, a5, a6), w ∈ eGW) (hst : eCe a1 a3 a5 a6 = true ∧ a4 < 11 ∧ eCn a4 = (eYn a1).cls) (hnw : a1 < 206) (hd : decode cc pc = .ok (.invokevirtual idx, 3)) : eSok p l e R s m args below meth c9 Q ex lo b D cy maxL mc ms (eCon l ex lo b D cy d) md (stI ex sc rt mc ms maxL (.invokevirtual idx) a1 a2 a3 a4 a5 a6 pc ls st h c z) (pc, ls, st, h, c, z) := by
  show eSok p l e R s m args below meth c9 Q ex lo b D cy maxL mc ms (eCon l ex lo b D cy d) md (match st.drop a3 with | .inr (.inr r) :: _ => (if (h.2.1 r).1 = a4 then ecall mc ms a1 (a3 + 1) a5 a6 pc ls st h c z else estk) | _ => estk) (pc, ls, st, h, c, z)
  rcases hdr : st.drop a3 with _ | ⟨x | x | r, t⟩
  · exact trivial
  · exact trivial
  · exact trivial
  refine k_chk fun hk => ?_
  obtain ⟨e1, e2, e3, e4⟩ := e_split hdr
  unfold ecall
  refine k_chk fun q => ?_
  intro o hcal hnext Ls H locs h1 h2 h3 h4 h5
  obtain ⟨mda, hm, hM⟩ := hcal
  obtain ⟨s1, s2, s3, s4⟩ := eCe_spec hst.1 hm
  have hcf := eCf_of hm
  obtain ⟨bytes, mL, ret, hcw, hmL⟩ : ∃ bytes mL ret, eCW a1 = .code (eYn a1) bytes mL ret ∧ mL ≤ 20 := by
    unfold eCf at hcf
    split at hcf
    · next y' bb mL' rr heq =>
      simp only [Bool.and_eq_true, decide_eq_true_eq] at hcf
      exact ⟨bb, mL', rr, by rw [← hcf.1]; exact heq, hcf.2⟩
    · simp only [Bool.and_eq_true, decide_eq_true_eq] at hcf
      omega
    · cases hcf
  have hcb := e_callB (idx := idx) (oc := oc) (n := a3) (f := a5) (g := a6) hts hR hm hst.1 hcw hmL (hwd _ (by simp [eWd])) (hwd _ (by simp [eWd])) (hwd _ (by simp [eWd]))
  obtain ⟨hr2, hrn⟩ := h2.2.1 r (by rw [hk]; omega)
  have hws := eWo_get (lo := lo) (b := b) (cy := cy) hr2 hrn
  rw [eEnt_O hk hst.2.1] at hws
  have hcl : vwCl[a4]? = some (vwCl.getD a4 (RX0, TX0, 12)) := by
    have hl : a4 < vwCl.length := hst.2.1
    rw [List.getD_eq_getElem?_getD, List.getElem?_eq_getElem hl]
    rfl
  have hrc := va_recv hG.1 h2.1 hcl hws
  refine e_after hx hb hlocks hown hhan hdec hmd (o := o) (a := (Value.ref (eA lo b r) :: ((st.take a3).reverse).map (eVal lo b)).toArray) (rst := st.drop (a3 + 1)) (f := a5) (g := a6) ?_ h1 h3 q.1 q.2.1 hnext
  rw [← s3, ← s4]
  refine vx_runV (As := ((st.take a3).reverse).map (eVal lo b)) (b := eA lo b r) (rest := (st.drop (a3 + 1)).map (eVal lo b)) (g := F0 m pc Ls (st.map (eVal lo b))) (C := (eYn a1).cls) (own := eRNm oc) (Ts := eGW) (nL := maxL) (cc := cc)
    ⟨hx, hb, hml, hown, hts⟩ hM ⟨hcb, hts _ (hwd _ (by simp [eWd])), hts _ (hwd _ (by simp [eWd]))⟩ ⟨eP_blind, ?_, fun U hU hW => ⟨?_, by rw [hU]; exact h2, by rw [hU]; exact eG.warm hW hG h3, by rw [hU]; exact Nat.le_trans hlo h3.1⟩⟩ rfl ?_ h1.1 ?_ (e_room rfl q.2.2.1) hd ⟨by rw [hR.1, s3]; exact q.1, by rw [hR.2.1, s4]; exact q.2.1⟩
  · obtain ⟨cell, c1, c2, c3⟩ := hrc
    exact ⟨cell, c1, c2, by rw [← hst.2.2]; exact c3⟩
  · rw [e1, List.map_cons, eVal_ref (by omega)]
  · rw [List.length_map, List.length_reverse, e4]
  · show st.map (eVal lo b) = _
    conv => lhs; rw [e3]
    rw [List.map_append, ← List.map_reverse, List.reverse_reverse, List.map_cons, eVal_ref (by omega), e2]
theorem k_invokespecial (hx : p.tables.exec = Jvm.exec) (hb : c9.code = cc) (hml : c9.maxLocals = maxL) (hlocks : meth.locks = false) (hts : ∀ w ∈ eGW, w.before args s = true) (hown : s.vm.findClass (eRNm oc) = some m.cls) (hG : eG lo D cy s s.heap) (hlo : lo ≤ s.heap.size) (hR : R.cells = mc ∧ R.slots = ms ∧ d + 13 ≤ R.frames ∧ 45 * d + 445 ≤ R.locals) (hmd : md.2.1 = maxL) (hhan : eHan s args c9 (eRNm oc) md.2.2.2.2.2.1)
    (hdec : ∀ q i a, elk md.2.2.2.2.2.2 q = some (i, a) → ((∃ n, i = .astore_n n) → decode cc q = .ok (i, 1)) ∧ ((∃ n, i = .astore n) → decode cc q = .ok (i, 2)))
    (hwd : ∀ w ∈ eWd oc (.invokespecial idx, a1, a2, a3, a4, a5, a6), w ∈ eGW) (hst : eCe a1 a3 a5 a6 = true ∧ a2 < 3 ∧ (eYn a1).name = "<init>" ∧ a4 < 11 ∧ eCn a4 = (eYn a1).cls) (ha2 : a2 ≠ 0) (hnw : a1 < 206) (hrn : ∀ bytes mL ret, eCW a1 = .code (eYn a1) bytes mL ret → ret = none) (hd : decode cc pc = .ok (.invokespecial idx, 3)) (hnest : a2 = 2 → Jvm.Cond.methodLinkNest (eRNm oc) idx (eYn a1) RX11 ∈ eNW) : eSok p l e R s m args below meth c9 Q ex lo b D cy maxL mc ms (eCon l ex lo b D cy d) md (stI ex sc rt mc ms maxL (.invokespecial idx) a1 a2 a3 a4 a5 a6 pc ls st h c z) (pc, ls, st, h, c, z) := by
  have hsh : stI ex sc rt mc ms maxL (.invokespecial idx) a1 a2 a3 a4 a5 a6 pc ls st h c z = (match st.drop a3 with | .inr (.inr r) :: _ => (if (h.2.1 r).1 = a4 then ecall mc ms a1 (a3 + 1) a5 a6 pc ls st h c z else estk) | _ => estk) := by
    cases a2 with
    | zero => exact absurd rfl ha2
    | succ k => rfl
  rw [hsh]
  rcases hdr : st.drop a3 with _ | ⟨x | x | r, t⟩
  · exact trivial
  · exact trivial
  · exact trivial
  refine k_chk fun hk => ?_
  obtain ⟨e1, e2, e3, e4⟩ := e_split hdr
  unfold ecall
  refine k_chk fun q => ?_
  intro o hcal hnext Ls H locs h1 h2 h3 h4 h5
  obtain ⟨mda, hm, hM⟩ := hcal
  obtain ⟨s1, s2, s3, s4⟩ := eCe_spec hst.1 hm
  have hcf := eCf_of hm
  obtain ⟨bytes, mL, ret, hcw, hmL⟩ : ∃ bytes mL ret, eCW a1 = .code (eYn a1) bytes mL ret ∧ mL ≤ 20 := by
    unfold eCf at hcf
    split at hcf
    · next y' bb mL' rr heq =>
      simp only [Bool.and_eq_true, decide_eq_true_eq] at hcf
      exact ⟨bb, mL', rr, by rw [← hcf.1]; exact heq, hcf.2⟩
    · simp only [Bool.and_eq_true, decide_eq_true_eq] at hcf
      omega
    · cases hcf
  obtain rfl := hrn _ _ _ hcw
  obtain ⟨hr2, hrn9⟩ := h2.2.1 r (by rw [hk]; omega)
  refine e_after hx hb hlocks hown hhan hdec hmd (o := o) (a := (Value.ref (eA lo b r) :: ((st.take a3).reverse).map (eVal lo b)).toArray) (rst := st.drop (a3 + 1)) (f := a5) (g := a6) ?_ h1 h3 q.1 q.2.1 hnext
  rw [← s3, ← s4]
  have hPc : ∀ U : State, U.heap = H → s.WarmedH U.vm → eP ex lo b D cy ((st.take (a3 + 1)).reverse) h (Value.ref (eA lo b r) :: ((st.take a3).reverse).map (eVal lo b)).toArray U := fun U hU hW => ⟨by rw [e1, List.map_cons, eVal_ref (by omega)], by rw [hU]; exact h2, by rw [hU]; exact eG.warm hW hG h3, by rw [hU]; exact Nat.le_trans hlo h3.1⟩
  have hln : (((st.take a3).reverse).map (eVal lo b)).length = a3 := by rw [List.length_map, List.length_reverse, e4]
  have hsk : (F0 m pc Ls (st.map (eVal lo b))).stack = (((st.take a3).reverse).map (eVal lo b)).reverse ++ .ref (eA lo b r) :: (st.drop (a3 + 1)).map (eVal lo b) := by
    show st.map (eVal lo b) = _
    conv => lhs; rw [e3]
    rw [List.map_append, ← List.map_reverse, List.reverse_reverse, List.map_cons, eVal_ref (by omega), e2]
  have hf9 : c + mda.2.2.2.1 ≤ R.cells ∧ z + mda.2.2.2.2.1 ≤ R.slots := ⟨by rw [hR.1, s3]; exact q.1, by rw [hR.2.1, s4]; exact q.2.1⟩
  have h12 : a2 = 1 ∨ a2 = 2 := by omega
  rcases h12 with rfl | rfl
  · have hcb := e_callB (idx := idx) (oc := oc) (n := a3) (f := a5) (g := a6) hts hR hm hst.1 hcw hmL (hwd _ (by simp [eWd])) (hwd _ (by simp [eWd])) (hwd _ (by simp [eWd]))
    exact vx_runI (As := ((st.take a3).reverse).map (eVal lo b)) (b := eA lo b r) (rest := (st.drop (a3 + 1)).map (eVal lo b)) (g := F0 m pc Ls (st.map (eVal lo b))) (own := eRNm oc) (Ts := eGW) (nL := maxL) (cc := cc)
      ⟨hx, hb, hml, hown, hts⟩ hM ⟨hcb, hst.2.2.1, hts _ (hwd _ (by simp [eWd]))⟩ ⟨eP_blind, hPc⟩ rfl hln h1.1 hsk (e_room rfl q.2.2.1) hd hf9
  · have hc : eCW a1 ∈ eGW := hwd _ (by simp [eWd])
    exact vx_runIN (host := RX11) (As := ((st.take a3).reverse).map (eVal lo b)) (b := eA lo b r) (rest := (st.drop (a3 + 1)).map (eVal lo b)) (g := F0 m pc Ls (st.map (eVal lo b))) (own := eRNm oc) (Ts := eGW) (nL := maxL) (cc := cc) (bytes := bytes) (maxL := mL)
      ⟨hx, hb, hml, hown, hts⟩ hM ⟨⟨⟨rfl, rfl, by show d + 12 + 1 ≤ _; omega, by show 8 + (mL + 11) + (45 * d + 400) ≤ _; omega, e_pay hts hc, by rw [← hcw]; exact List.mem_cons_self⟩, by rw [← hcw]; exact hts _ hc, hts _ (hwd _ (by simp [eWd])), s2, e_len s1, va_Nw.use rfl (hG.2.1 _ (hnest rfl))⟩, hst.2.2.1, hts _ (hwd _ (by simp [eWd]))⟩ ⟨eP_blind, hPc⟩ rfl hln h1.1 hsk (e_room rfl q.2.2.1) hd hf9
theorem k_invokestatic (hx : p.tables.exec = Jvm.exec) (hb : c9.code = cc) (hml : c9.maxLocals = maxL) (hlocks : meth.locks = false) (hts : ∀ w ∈ eGW, w.before args s = true) (hown : s.vm.findClass (eRNm oc) = some m.cls) (hG : eG lo D cy s s.heap) (hlo : lo ≤ s.heap.size) (hR : R.cells = mc ∧ R.slots = ms ∧ d + 13 ≤ R.frames ∧ 45 * d + 445 ≤ R.locals) (hmd : md.2.1 = maxL) (hhan : eHan s args c9 (eRNm oc) md.2.2.2.2.2.1)
    (hdec : ∀ q i a, elk md.2.2.2.2.2.2 q = some (i, a) → ((∃ n, i = .astore_n n) → decode cc q = .ok (i, 1)) ∧ ((∃ n, i = .astore n) → decode cc q = .ok (i, 2)))
    (hwd : ∀ w ∈ eWd oc (.invokestatic idx, a1, a2, a3, a4, a5, a6), w ∈ eGW) (hst : eCe a1 a3 a5 a6 = true ∧ a2 < 2) (hd : decode cc pc = .ok (.invokestatic idx, 3)) (hnest : a2 = 1 → Jvm.Cond.methodLinkNest (eRNm oc) idx (eYn a1) RX11 ∈ eNW ∧ a1 < 206) : eSok p l e R s m args below meth c9 Q ex lo b D cy maxL mc ms (eCon l ex lo b D cy d) md (stI ex sc rt mc ms maxL (.invokestatic idx) a1 a2 a3 a4 a5 a6 pc ls st h c z) (pc, ls, st, h, c, z) := by
  have hsh : stI ex sc rt mc ms maxL (.invokestatic idx) a1 a2 a3 a4 a5 a6 pc ls st h c z = ecall mc ms a1 a3 a5 a6 pc ls st h c z := by
    have h12 : a2 = 0 ∨ a2 = 1 := by omega
    rcases h12 with rfl | rfl <;> rfl
  rw [hsh]
  unfold ecall
  refine k_chk fun q => ?_
  intro o hcal hnext Ls H locs h1 h2 h3 h4 h5
  obtain ⟨mda, hm, hM⟩ := hcal
  obtain ⟨s1, s2, s3, s4⟩ := eCe_spec hst.1 hm
  have hcf := eCf_of hm
  refine e_after hx hb hlocks hown hhan hdec hmd (o := o) (a := (((st.take a3).reverse).map (eVal lo b)).toArray) (rst := st.drop a3) (f := a5) (g := a6) ?_ h1 h3 q.1 q.2.1 hnext
  rw [← s3, ← s4]
  have hPc : ∀ U : State, U.heap = H → s.WarmedH U.vm → eP ex lo b D cy ((st.take a3).reverse) h (((st.take a3).reverse).map (eVal lo b)).toArray U := fun U hU hW => ⟨rfl, by rw [hU]; exact h2, by rw [hU]; exact eG.warm hW hG h3, by rw [hU]; exact Nat.le_trans hlo h3.1⟩
  have hln : (((st.take a3).reverse).map (eVal lo b)).length = a3 := by rw [List.length_map, List.length_reverse, List.length_take]; have := q.2.2.2; omega
  have hsk : (F0 m pc Ls (st.map (eVal lo b))).stack = (((st.take a3).reverse).map (eVal lo b)).reverse ++ (st.drop a3).map (eVal lo b) := by
    show st.map (eVal lo b) = _
    rw [← List.map_reverse, List.reverse_reverse, ← List.map_append, List.take_append_drop]
  have hf9 : c + mda.2.2.2.1 ≤ R.cells ∧ z + mda.2.2.2.2.1 ≤ R.slots := ⟨by rw [hR.1, s3]; exact q.1, by rw [hR.2.1, s4]; exact q.2.1⟩
  have h12 : a2 = 0 ∨ a2 = 1 := by omega
  rcases h12 with rfl | rfl
  · have hc : eCW a1 ∈ eGW := hwd _ (by simp [eWd])
    unfold eCf at hcf
    split at hcf
    · next y' bb mL' rr heq =>
      simp only [Bool.and_eq_true, decide_eq_true_eq] at hcf
      obtain ⟨rfl, hmL⟩ := hcf
      have hcb := e_callB (idx := idx) (oc := oc) (n := a3) (f := a5) (g := a6) hts hR hm hst.1 heq hmL (hwd _ (by simp [eWd])) (hwd _ (by simp [eWd])) hc
      exact vx_runS (As := ((st.take a3).reverse).map (eVal lo b)) (rest := (st.drop a3).map (eVal lo b)) (g := F0 m pc Ls (st.map (eVal lo b))) (own := eRNm oc) (Ts := eGW) (nL := maxL) (cc := cc)
        ⟨hx, hb, hml, hown, hts⟩ hM ⟨hcb, hts _ (hwd _ (by simp [eWd]))⟩ ⟨eP_blind, hPc⟩ rfl hln h1.1 hsk (e_room rfl q.2.2.1) hd hf9
    · next y' bb mL' rr hh heq =>
      simp only [Bool.and_eq_true, decide_eq_true_eq] at hcf
      obtain ⟨⟨rfl, hmL⟩, -⟩ := hcf
      exact vx_runSX (hh := hh) (As := ((st.take a3).reverse).map (eVal lo b)) (rest := (st.drop a3).map (eVal lo b)) (g := F0 m pc Ls (st.map (eVal lo b))) (own := eRNm oc) (Ts := eGW) (nL := maxL) (cc := cc) (bytes := bb) (maxL := mL') (ret := rr)
        ⟨hx, hb, hml, hown, hts⟩ hM ⟨⟨rfl, rfl, by show d + 12 + 1 ≤ _; omega, by show 8 + (mL' + 11) + (45 * d + 400) ≤ _; omega, e_pay hts hc, by rw [← heq]; exact List.mem_cons_self⟩, by rw [← heq]; exact hts _ hc, hts _ (hwd _ (by simp [eWd])), s2, e_len s1, hts _ (hwd _ (by simp [eWd])), hts _ (hwd _ (by simp [eWd]))⟩ ⟨eP_blind, hPc⟩ rfl hln h1.1 hsk (e_room rfl q.2.2.1) hd hf9
    · cases hcf
  · have hc : eCW a1 ∈ eGW := hwd _ (by simp [eWd])
    obtain ⟨hn1, hn2⟩ := hnest rfl
    obtain ⟨bytes, mL, ret, hcw, hmL⟩ : ∃ bytes mL ret, eCW a1 = .code (eYn a1) bytes mL ret ∧ mL ≤ 20 := by
      unfold eCf at hcf
      split at hcf
      · next y' bb mL' rr heq =>
        simp only [Bool.and_eq_true, decide_eq_true_eq] at hcf
        exact ⟨bb, mL', rr, by rw [← hcf.1]; exact heq, hcf.2⟩
      · simp only [Bool.and_eq_true, decide_eq_true_eq] at hcf
        omega
      · cases hcf
    exact vx_runSN (host := RX11) (As := ((st.take a3).reverse).map (eVal lo b)) (rest := (st.drop a3).map (eVal lo b)) (g := F0 m pc Ls (st.map (eVal lo b))) (own := eRNm oc) (Ts := eGW) (nL := maxL) (cc := cc) (bytes := bytes) (maxL := mL) (ret := ret)
      ⟨hx, hb, hml, hown, hts⟩ hM ⟨⟨⟨rfl, rfl, by show d + 12 + 1 ≤ _; omega, by show 8 + (mL + 11) + (45 * d + 400) ≤ _; omega, e_pay hts hc, by rw [← hcw]; exact List.mem_cons_self⟩, by rw [← hcw]; exact hts _ hc, hts _ (hwd _ (by simp [eWd])), s2, e_len s1, va_Nw.use rfl (hG.2.1 _ hn1)⟩, hts _ (hwd _ (by simp [eWd])), trivial⟩ ⟨eP_blind, hPc⟩ rfl hln h1.1 hsk (e_room rfl q.2.2.1) hd hf9
theorem eTi_ok : eTi.all (fun q => (vx_atS RX11 q.2 (eXN q.1) eEN).all (fun w => vx_ot w && ((goodWord w && decide (w ∈ lw_tbl)) || decide (w ∈ eNW)))) = true := by decide +kernel
theorem eNW_on : eNW.all (fun w => w.onTables) = true := by decide +kernel
theorem k_throw (hx : p.tables.exec = Jvm.exec) (hb : c9.code = cc) (hl : l.stackTraces = false) (hml : c9.maxLocals = maxL) (hlocks : meth.locks = false) (hts : ∀ w ∈ eGW, w.before args s = true) (hown : s.vm.findClass (eRNm oc) = some m.cls) (hG : eG lo D cy s s.heap) (hR : R.cells = mc ∧ R.slots = ms ∧ d + 13 ≤ R.frames ∧ 45 * d + 445 ≤ R.locals)
    (hno : ∀ x ∈ c9.exceptionTable.toList, False) (hwd : ∀ w ∈ eWd oc (.new idx, a1, a2, a3, a4, a5, a6), w ∈ eGW) (h0 : a2 ≠ 0) (h3' : a1 < 3) (hoc : eRNm oc = RX11) (htx : eTx.any (fun q => decide (q.1 = a3)) = true) (hti : eTi.any (fun q => decide (q = (a1, a4))) = true)
    (d0 : decode cc pc = .ok (.new idx, 3)) (d3 : decode cc (pc + 3) = .ok (.dup, 1)) (d4 : decode cc (pc + 4) = .ok (.ldc a3, 2)) (d6 : decode cc (pc + 6) = .ok (.invokespecial a4, 3)) (d9 : decode cc (pc + 9) = .ok (.athrow, 1)) : eSok p l e R s m args below meth c9 Q ex lo b D cy maxL mc ms cal md (stI ex sc rt mc ms maxL (.new idx) a1 a2 a3 a4 a5 a6 pc ls st h c z) (pc, ls, st, h, c, z) := by
  have hsh : stI ex sc rt mc ms maxL (.new idx) a1 a2 a3 a4 a5 a6 pc ls st h c z = (if ex = false ∧ c + 1 ≤ mc ∧ z + 6 ≤ ms ∧ ecats st ≤ 8 then .inr (.inl (.inr (a1, h))) else estk) := by
    cases a2 with
    | zero => exact absurd rfl h0
    | succ k => rfl
  rw [hsh]
  refine k_chk fun q => ?_
  intro hQ Ls H locs h1 h2 h3 h4 h5
  subst hQ
  obtain ⟨rfl, q1, q2, q3⟩ := q
  obtain ⟨qt, htm, hte⟩ := List.any_eq_true.mp htx
  have hte := of_decide_eq_true hte
  obtain ⟨sa, hsa⟩ := hG.2.2.1 qt htm
  obtain ⟨qi, him, hie⟩ := List.any_eq_true.mp hti
  have hie := of_decide_eq_true hie
  have hall := List.all_eq_true.mp eTi_ok qi him
  rw [hie] at hall
  have hall := List.all_eq_true.mp hall
  have hat : ∀ w ∈ vx_atS RX11 a4 (eXN a1) eEN, w.before args s = true := fun w hw => by
    have := hall w hw
    simp only [Bool.and_eq_true, Bool.or_eq_true, decide_eq_true_eq] at this
    rcases this.2 with g | g
    · exact hts w (List.mem_filter.mpr ⟨g.2, g.1⟩)
    · exact va_Nw.use (List.all_eq_true.mp eNW_on w g) (hG.2.1 w g)
  have hwd1 : Jvm.Cond.classLink (eRNm oc) idx (eXN a1) ∈ eGW ∧ Jvm.Cond.initialized (eXN a1) ∈ eGW := by
    cases a2 with
    | zero => exact absurd rfl h0
    | succ k => exact ⟨hwd _ (by simp [eWd]), hwd _ (by simp [eWd])⟩
  rw [hoc] at hwd1 hown
  have hn : ∀ n ∈ eEN, Bundle.fit n = true := by decide +kernel
  have hcls : Bundle.fit (eXN a1) = true := by
    have : a1 = 0 ∨ a1 = 1 ∨ a1 = 2 := by omega
    rcases this with rfl | rfl | rfl <;> decide +kernel
  have hvo : ∀ w, w ∈ eGW → vx_ot w = true := fun w hw => by
    unfold vx_ot
    rw [(List.mem_filter.mp hw).2, Bool.or_true]
  rw [← hte] at d4
  refine vx_throwS (own := RX11) (cls := eXN a1) (text := qt.2) (names := eEN) (ik := idx) (is := qt.1) (ic := a4) (sa := sa) (A := fun q => lo ≤ q) hx hb hl hown hcls hn (hts _ hwd1.1) (hts _ hwd1.2) hsa hat (fun w hw => ?_) hG.2.2.2.2.2.1 hG.2.2.2.2.2.2 h3 (h1.1.trans hml.symm) d0 d3 d4 d6 d9 (fun x hx => (hno x hx).elim)
    (by show 2 + 3 < _; omega) (by rw [ecats_sum]; show ecats st + (13 * (2 + 1) + 43) ≤ _; omega) (by rw [hR.1]; exact q1) (by rw [hR.2.1]; exact q2) hlocks (fun t ht hz ho => ⟨rfl, ?_, ?_⟩) h3.2.2 q1 q2
  · rcases List.mem_cons.mp hw with rfl | hw
    · exact hvo _ hwd1.1
    · rcases List.mem_cons.mp hw with rfl | hw
      · exact hvo _ hwd1.2
      · have := hall w hw
        simp only [Bool.and_eq_true] at this
        exact this.1
  · exact ⟨h2.1.kept (fun k x hx => ho x.1 ((h2.1 k x hx).lt)), h2.2.1, h2.2.2.1, fun w => by cases w⟩
  · exact ⟨Nat.le_trans h3.1 hz, fun x g1 g2 => (ho x (Nat.lt_of_lt_of_le g1 h3.1)).trans (h3.2.1 x g1 g2)⟩
end EST5
