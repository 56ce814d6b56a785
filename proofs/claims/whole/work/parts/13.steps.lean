/-! every step; every method -/
theorem eLay_ok : vwCl.all (fun q => (u_ws q.1 q.2.1 q.2.2).all (fun w => decide (w ∈ eGW))) = true := by decide +kernel
theorem eCl_of {ci : Nat} (h : ci < 11) : eCl eGW ci (eCn ci) (fun k => eFd ci k) (eNF ci) ∧ (∃ ty0 : Nat → FieldType, (∀ k, k < eNF ci → parseFieldDescriptor (eFd ci k).2.2.1 = some (ty0 k)) ∧ ∀ k, k < eNF ci → defaultValue (ty0 k) = if eRef ci k = true then .null else .int 0) := by
  have key : ∀ (C : String) (T : u_T) (N : Nat), vwCl[ci]? = some (C, T, N) → ∀ w ∈ u_ws C T N, w ∈ eGW := fun C T N h w hw => by
    have h1 := List.all_eq_true.mp eLay_ok _ (List.mem_of_getElem? h)
    exact of_decide_eq_true (List.all_eq_true.mp h1 w hw)
  have : ci = 0 ∨ ci = 1 ∨ ci = 2 ∨ ci = 3 ∨ ci = 4 ∨ ci = 5 ∨ ci = 6 ∨ ci = 7 ∨ ci = 8 ∨ ci = 9 ∨ ci = 10 := by omega
  rcases this with rfl | rfl | rfl | rfl | rfl | rfl | rfl | rfl | rfl | rfl | rfl
  · exact ⟨⟨rfl, rfl, key _ _ _ rfl, ⟨tyX0, tyX0_ok⟩, nmX0⟩, tyX0, tyX0_ok, by decide +kernel⟩
  · exact ⟨⟨rfl, rfl, key _ _ _ rfl, ⟨tyX1, tyX1_ok⟩, nmX1⟩, tyX1, tyX1_ok, by decide +kernel⟩
  · exact ⟨⟨rfl, rfl, key _ _ _ rfl, ⟨tyX2, tyX2_ok⟩, nmX2⟩, tyX2, tyX2_ok, by decide +kernel⟩
  · exact ⟨⟨rfl, rfl, key _ _ _ rfl, ⟨tyX3, tyX3_ok⟩, nmX3⟩, tyX3, tyX3_ok, by decide +kernel⟩
  · exact ⟨⟨rfl, rfl, key _ _ _ rfl, ⟨tyX5, tyX5_ok⟩, nmX5⟩, tyX5, tyX5_ok, by decide +kernel⟩
  · exact ⟨⟨rfl, rfl, key _ _ _ rfl, ⟨tyX6, tyX6_ok⟩, nmX6⟩, tyX6, tyX6_ok, by decide +kernel⟩
  · exact ⟨⟨rfl, rfl, key _ _ _ rfl, ⟨tyX7, tyX7_ok⟩, nmX7⟩, tyX7, tyX7_ok, by decide +kernel⟩
  · exact ⟨⟨rfl, rfl, key _ _ _ rfl, ⟨tyX8, tyX8_ok⟩, nmX8⟩, tyX8, tyX8_ok, by decide +kernel⟩
  · exact ⟨⟨rfl, rfl, key _ _ _ rfl, ⟨tyX10, tyX10_ok⟩, nmX10⟩, tyX10, tyX10_ok, by decide +kernel⟩
  · exact ⟨⟨rfl, rfl, key _ _ _ rfl, ⟨tyX11, tyX11_ok⟩, nmX11⟩, tyX11, tyX11_ok, by decide +kernel⟩
  · exact ⟨⟨rfl, rfl, key _ _ _ rfl, ⟨tyX12, tyX12_ok⟩, nmX12⟩, tyX12, tyX12_ok, by decide +kernel⟩
theorem eDc_spec {cc : ByteArray} {pc : Nat} {i : Instr} (h : eDc cc pc i = true) : ∃ n, decode cc pc = .ok (i, n) ∧ ((∀ a b c d, i ≠ .tableswitch a b c d) → (∀ a b, i ≠ .lookupswitch a b) → n = eLn i) ∧ (∀ a ps, i = .lookupswitch a ps → (ps.toList.zip (ps.toList.drop 1)).all (fun (a, next) => a.1 < next.1) = true) := by
  unfold eDc at h
  split at h
  · next i' n heq =>
    simp only [Bool.and_eq_true, decide_eq_true_eq] at h
    obtain ⟨rfl, h2⟩ := h
    refine ⟨n, heq, ?_, ?_⟩
    · intro h3 h4
      split at h2
      · exact absurd rfl (h3 _ _ _ _)
      · exact absurd rfl (h4 _ _)
      · exact of_decide_eq_true h2
    · intro a ps he
      subst he
      exact h2
  · cases h
section EST6
variable {p : Program} {l : Launch} {e : Env} {R : Room} {s : State} {m : MethodId} {args : Array Value} {below : List Frame} {meth : Method} {c9 : Code} {Q : State → Prop}
variable {ex : Bool} {lo b : Nat} {D : va_G} {cy : Nat → ClassId} {maxL mc ms : Nat} {cal : Nat → List eV → eH → eR → Prop} {md : eM}
variable {sc : Option (Nat × (Nat → Int32))} {rt a1 a2 a3 a4 a5 a6 : Nat} {pc : Nat} {ls : eL} {st : List eV} {h : eH} {c z : Nat} {cc : ByteArray} {S : eS} {k : eO}
variable {d oc : Nat} {i : Instr}

set_option maxHeartbeats 8000000 in
theorem e_step (hx : p.tables.exec = Jvm.exec) (hb : c9.code = cc) (hl : l.stackTraces = false) (hml : c9.maxLocals = maxL) (hlocks : meth.locks = false) (hts : ∀ w ∈ eGW, w.before args s = true) (hown : s.vm.findClass (eRNm oc) = some m.cls) (hG : eG lo D cy s s.heap) (hlo : lo ≤ s.heap.size) (hR : R.cells = mc ∧ R.slots = ms ∧ d + 13 ≤ R.frames ∧ 45 * d + 445 ≤ R.locals) (hmd : md.2.1 = maxL) (hhan : eHan s args c9 (eRNm oc) md.2.2.2.2.2.1)
    (hdec : ∀ q i a, elk md.2.2.2.2.2.2 q = some (i, a) → ((∃ n, i = .astore_n n) → decode cc q = .ok (i, 1)) ∧ ((∃ n, i = .astore n) → decode cc q = .ok (i, 2)))
    (hsc : ∀ X, sc = some X → va_X b X.1 X.2 s s.heap ∧ b < s.heap.size ∧ b < lo) {init : Bool} (hinit : init = true → meth.name = "<init>")
    (hret : (rt = 0 ∧ meth.sig.returnType = none) ∨ (rt = 1 ∧ meth.sig.returnType = some .int) ∨ (rt = 2 ∧ meth.sig.returnType = some .long) ∨ (rt = 3 ∧ ∃ C, meth.sig.returnType = some (.object C)) ∨ (rt = 4 ∧ meth.sig.returnType = some .boolean))
    (hwd : ∀ w ∈ eWd oc (i, a1, a2, a3, a4, a5, a6), w ∈ eGW) (hst : eSt cc init (eRNm oc) rt (pc, i, a1, a2, a3, a4, a5, a6) = true)
    (hn1 : ∀ idx, i = .invokespecial idx → a2 = 0 ∨ (a1 < 206 ∧ (∀ bytes mL ret, eCW a1 = .code (eYn a1) bytes mL ret → ret = none) ∧ (a2 = 2 → Jvm.Cond.methodLinkNest (eRNm oc) idx (eYn a1) RX11 ∈ eNW)))
    (hn2 : ∀ idx, i = .invokestatic idx → a2 = 1 → Jvm.Cond.methodLinkNest (eRNm oc) idx (eYn a1) RX11 ∈ eNW ∧ a1 < 206) (hn3 : ∀ idx, i = .invokevirtual idx → a1 < 206) (hno : ∀ idx, i = .new idx → a2 ≠ 0 → ∀ x ∈ c9.exceptionTable.toList, False) : eSok p l e R s m args below meth c9 Q ex lo b D cy maxL mc ms (eCon l ex lo b D cy d) md (stI ex sc rt mc ms maxL i a1 a2 a3 a4 a5 a6 pc ls st h c z) (pc, ls, st, h, c, z) := by
  unfold eSt at hst
  rw [Bool.and_eq_true] at hst
  obtain ⟨hdc, hst⟩ := hst
  obtain ⟨n, hd, hn, hlk⟩ := eDc_spec hdc
  cases i
  case iload_n => obtain rfl := hn (by intros; intro q; cases q) (by intros; intro q; cases q); exact k_iload_n hx hb hd
  case iload => obtain rfl := hn (by intros; intro q; cases q) (by intros; intro q; cases q); exact k_iload hx hb hd
  case lload_n => obtain rfl := hn (by intros; intro q; cases q) (by intros; intro q; cases q); exact k_lload_n hx hb hd
  case lload => obtain rfl := hn (by intros; intro q; cases q) (by intros; intro q; cases q); exact k_lload hx hb hd
  case aload_n => obtain rfl := hn (by intros; intro q; cases q) (by intros; intro q; cases q); exact k_aload_n hx hb hd
  case aload => obtain rfl := hn (by intros; intro q; cases q) (by intros; intro q; cases q); exact k_aload hx hb hd
  case istore_n => obtain rfl := hn (by intros; intro q; cases q) (by intros; intro q; cases q); exact k_istore_n hx hb hd
  case istore => obtain rfl := hn (by intros; intro q; cases q) (by intros; intro q; cases q); exact k_istore hx hb hd
  case lstore_n => obtain rfl := hn (by intros; intro q; cases q) (by intros; intro q; cases q); exact k_lstore_n hx hb hd
  case lstore => obtain rfl := hn (by intros; intro q; cases q) (by intros; intro q; cases q); exact k_lstore hx hb hd
  case astore_n => obtain rfl := hn (by intros; intro q; cases q) (by intros; intro q; cases q); exact k_astore_n hx hb hd
  case astore => obtain rfl := hn (by intros; intro q; cases q) (by intros; intro q; cases q); exact k_astore hx hb hd
  case aconst_null => obtain rfl := hn (by intros; intro q; cases q) (by intros; intro q; cases q); exact k_aconst_null hx hb hd
  case iconst => obtain rfl := hn (by intros; intro q; cases q) (by intros; intro q; cases q); exact k_iconst hx hb hd
  case bipush => obtain rfl := hn (by intros; intro q; cases q) (by intros; intro q; cases q); exact k_bipush hx hb hd
  case sipush => obtain rfl := hn (by intros; intro q; cases q) (by intros; intro q; cases q); exact k_sipush hx hb hd
  case lconst => obtain rfl := hn (by intros; intro q; cases q) (by intros; intro q; cases q); exact k_lconst hx hb hd
  case iadd => obtain rfl := hn (by intros; intro q; cases q) (by intros; intro q; cases q); exact k_iadd hx hb hd
  case isub => obtain rfl := hn (by intros; intro q; cases q) (by intros; intro q; cases q); exact k_isub hx hb hd
  case imul => obtain rfl := hn (by intros; intro q; cases q) (by intros; intro q; cases q); exact k_imul hx hb hd
  case iand => obtain rfl := hn (by intros; intro q; cases q) (by intros; intro q; cases q); exact k_iand hx hb hd
  case ior => obtain rfl := hn (by intros; intro q; cases q) (by intros; intro q; cases q); exact k_ior hx hb hd
  case ishl => obtain rfl := hn (by intros; intro q; cases q) (by intros; intro q; cases q); exact k_ishl hx hb hd
  case ishr => obtain rfl := hn (by intros; intro q; cases q) (by intros; intro q; cases q); exact k_ishr hx hb hd
  case iushr => obtain rfl := hn (by intros; intro q; cases q) (by intros; intro q; cases q); exact k_iushr hx hb hd
  case idiv => obtain rfl := hn (by intros; intro q; cases q) (by intros; intro q; cases q); exact k_idiv hx hb hd
  case irem => obtain rfl := hn (by intros; intro q; cases q) (by intros; intro q; cases q); exact k_irem hx hb hd
  case ladd => obtain rfl := hn (by intros; intro q; cases q) (by intros; intro q; cases q); exact k_ladd hx hb hd
  case lsub => obtain rfl := hn (by intros; intro q; cases q) (by intros; intro q; cases q); exact k_lsub hx hb hd
  case lmul => obtain rfl := hn (by intros; intro q; cases q) (by intros; intro q; cases q); exact k_lmul hx hb hd
  case land => obtain rfl := hn (by intros; intro q; cases q) (by intros; intro q; cases q); exact k_land hx hb hd
  case lor => obtain rfl := hn (by intros; intro q; cases q) (by intros; intro q; cases q); exact k_lor hx hb hd
  case lxor => obtain rfl := hn (by intros; intro q; cases q) (by intros; intro q; cases q); exact k_lxor hx hb hd
  case lcmp => obtain rfl := hn (by intros; intro q; cases q) (by intros; intro q; cases q); exact k_lcmp hx hb hd
  case lshl => obtain rfl := hn (by intros; intro q; cases q) (by intros; intro q; cases q); exact k_lshl hx hb hd
  case lshr => obtain rfl := hn (by intros; intro q; cases q) (by intros; intro q; cases q); exact k_lshr hx hb hd
  case lushr => obtain rfl := hn (by intros; intro q; cases q) (by intros; intro q; cases q); exact k_lushr hx hb hd
  case i2l => obtain rfl := hn (by intros; intro q; cases q) (by intros; intro q; cases q); exact k_i2l hx hb hd
  case l2i => obtain rfl := hn (by intros; intro q; cases q) (by intros; intro q; cases q); exact k_l2i hx hb hd
  case iinc => obtain rfl := hn (by intros; intro q; cases q) (by intros; intro q; cases q); exact k_iinc hx hb hd
  case goto => obtain rfl := hn (by intros; intro q; cases q) (by intros; intro q; cases q); exact k_goto hx hb hd
  case if_icmp => obtain rfl := hn (by intros; intro q; cases q) (by intros; intro q; cases q); exact k_if_icmp hx hb hd
  case ifCond => obtain rfl := hn (by intros; intro q; cases q) (by intros; intro q; cases q); exact k_ifCond hx hb hd
  case ifnull => obtain rfl := hn (by intros; intro q; cases q) (by intros; intro q; cases q); exact k_ifnull hx hb hd
  case ifnonnull => obtain rfl := hn (by intros; intro q; cases q) (by intros; intro q; cases q); exact k_ifnonnull hx hb hd
  case dup => obtain rfl := hn (by intros; intro q; cases q) (by intros; intro q; cases q); exact k_dup hx hb hd
  case dup2 => obtain rfl := hn (by intros; intro q; cases q) (by intros; intro q; cases q); exact k_dup2 hx hb hd
  case pop => obtain rfl := hn (by intros; intro q; cases q) (by intros; intro q; cases q); exact k_pop hx hb hd
  case tableswitch => exact k_tableswitch hx hb hd
  case lookupswitch => exact k_lookupswitch hx hb hd (hlk _ _ rfl)
  case getfield idx =>
    obtain rfl := hn (by intros; intro q; cases q) (by intros; intro q; cases q)
    simp only [Bool.and_eq_true, Bool.or_eq_true, decide_eq_true_eq, Bool.not_eq_true'] at hst
    exact k_getfield hx hb hts hown hG.1 (eCl_of hst.1.1).1 hst.1.1 hst.1.2 (hts _ (hwd _ (by simp [eWd]))) (by rcases hst.2 with q | q; exact Or.inl q; exact Or.inr q) hd
  case putfield idx =>
    obtain rfl := hn (by intros; intro q; cases q) (by intros; intro q; cases q)
    simp only [Bool.and_eq_true, Bool.or_eq_true, decide_eq_true_eq, Bool.not_eq_true'] at hst
    refine k_putfield hx hb hts hown hG.1 (eCl_of hst.1.1.1).1 hst.1.1.1 hst.1.1.2 (hts _ (hwd _ (by simp [eWd]))) (by rcases hst.2 with q | q; exact Or.inl q; exact (by cases hf : (eFd a1 a2).2.2.2 with | false => exact Or.inl rfl | true => exact Or.inr ⟨rfl, hinit q.1, q.2⟩)) ?_ hd
    have h9 := hst.1.2
    unfold eFtB at h9
    split at h9
    · simp only [Bool.and_eq_true, decide_eq_true_eq, Bool.not_eq_true'] at h9
      exact Or.inl ⟨rfl, h9.1, h9.2⟩
    · simp only [Bool.and_eq_true] at h9
      refine Or.inr (Or.inl ⟨rfl, h9.1, ?_⟩)
      have h8 := h9.2
      split at h8
      · next ty heq => exact ⟨ty, heq, h8⟩
      · cases h8
    · simp only [Bool.and_eq_true, decide_eq_true_eq, Bool.not_eq_true'] at h9
      exact Or.inr (Or.inr ⟨rfl, h9.1, h9.2⟩)
    · cases h9
  case iaload => obtain rfl := hn (by intros; intro q; cases q) (by intros; intro q; cases q); exact k_iaload hx hb hG.1 hsc hd
  case baload => obtain rfl := hn (by intros; intro q; cases q) (by intros; intro q; cases q); exact k_baload hx hb hG.1 hd
  case laload => obtain rfl := hn (by intros; intro q; cases q) (by intros; intro q; cases q); exact k_laload hx hb hG.1 hd
  case aaload =>
    obtain rfl := hn (by intros; intro q; cases q) (by intros; intro q; cases q)
    simp only [Bool.and_eq_true, decide_eq_true_eq] at hst
    exact k_aaload hx hb hG.1 hst.1 hst.2 hd
  case arraylength => obtain rfl := hn (by intros; intro q; cases q) (by intros; intro q; cases q); exact k_arraylength hx hb hG.1 hsc hd
  case iastore => obtain rfl := hn (by intros; intro q; cases q) (by intros; intro q; cases q); exact k_iastore hx hb hG.1 hd
  case bastore => obtain rfl := hn (by intros; intro q; cases q) (by intros; intro q; cases q); exact k_bastore hx hb hG.1 hd
  case lastore => obtain rfl := hn (by intros; intro q; cases q) (by intros; intro q; cases q); exact k_lastore hx hb hG.1 hd
  case aastore =>
    obtain rfl := hn (by intros; intro q; cases q) (by intros; intro q; cases q)
    simp only [Bool.and_eq_true, Bool.or_eq_true, decide_eq_true_eq] at hst
    rcases hst with (⟨rfl, rfl⟩ | ⟨rfl, rfl⟩) | ⟨rfl, rfl⟩
    · exact k_aastore hx hb hG.1 (by decide) (by decide) rfl (T := TX0) (N := 12) rfl (by decide) hd
    · exact k_aastore hx hb hG.1 (by decide) (by decide) rfl (T := TX2) (N := 8) rfl (by decide) hd
    · exact k_aastore hx hb hG.1 (by decide) (by decide) rfl (T := TX7) (N := 6) rfl (by decide) hd
  case new idx =>
    obtain rfl := hn (by intros; intro q; cases q) (by intros; intro q; cases q)
    by_cases h0 : a2 = 0
    · subst h0
      simp only [decide_eq_true_eq] at hst
      obtain ⟨e1, e2⟩ := eCl_of hst
      exact k_new hx hb ⟨hR.1, hR.2.1⟩ hlo hts hown hG.1 e1 hst rfl e2 (hts _ (hwd _ (by simp [eWd]))) (hts _ (hwd _ (by simp [eWd]))) (hts _ (hwd _ (by simp [eWd]))) hd
    · have hst2 : (decide (a2 = 1) && decide (a1 < 3) && decide (eRNm oc = RX11) && eDc cc (pc + 3) .dup && eDc cc (pc + 4) (.ldc a3) && eDc cc (pc + 6) (.invokespecial a4) && eDc cc (pc + 9) .athrow && eTx.any (fun q => decide (q.1 = a3)) && eTi.any (fun q => decide (q = (a1, a4)))) = true := by
        cases a2 with
        | zero => exact absurd rfl h0
        | succ k => exact hst
      simp only [Bool.and_eq_true, decide_eq_true_eq] at hst2
      obtain ⟨⟨⟨⟨⟨⟨⟨⟨s1, s2⟩, s3⟩, s4⟩, s5⟩, s6⟩, s7⟩, s8⟩, s9⟩ := hst2
      obtain ⟨n3, g3, f3, -⟩ := eDc_spec s4
      obtain ⟨n4, g4, f4, -⟩ := eDc_spec s5
      obtain ⟨n6, g6, f6, -⟩ := eDc_spec s6
      obtain ⟨n9, g9, f9, -⟩ := eDc_spec s7
      obtain rfl := f3 (by intros; intro q; cases q) (by intros; intro q; cases q)
      obtain rfl := f4 (by intros; intro q; cases q) (by intros; intro q; cases q)
      obtain rfl := f6 (by intros; intro q; cases q) (by intros; intro q; cases q)
      obtain rfl := f9 (by intros; intro q; cases q) (by intros; intro q; cases q)
      exact k_throw hx hb hl hml hlocks hts hown hG hR (hno _ rfl h0) hwd h0 s2 s3 s8 s9 hd g3 g4 g6 g9
  case newarray t =>
    obtain rfl := hn (by intros; intro q; cases q) (by intros; intro q; cases q)
    simp only [Bool.and_eq_true, Bool.or_eq_true, decide_eq_true_eq] at hst
    exact k_newarray hx hb ⟨hR.1, hR.2.1⟩ hlo hG.1 (hts _ (hwd _ (by simp [eWd]))) (by rcases hst with (q | q) | q; exact Or.inl q; exact Or.inr (Or.inl q); exact Or.inr (Or.inr q)) hd
  case anewarray idx =>
    obtain rfl := hn (by intros; intro q; cases q) (by intros; intro q; cases q)
    simp only [Bool.and_eq_true, decide_eq_true_eq] at hst
    have h3 : a1 = 14 ∨ a1 = 15 ∨ a1 = 16 := by omega
    have hw1 := hts _ (hwd _ (by simp only [eWd]; exact List.mem_singleton.mpr rfl))
    rcases h3 with rfl | rfl | rfl
    · exact k_anewarray hx hb ⟨hR.1, hR.2.1⟩ hlo hown hG.1 (by decide) (by decide) rfl hw1 hG.2.2.2.2.1.1 hd
    · exact k_anewarray hx hb ⟨hR.1, hR.2.1⟩ hlo hown hG.1 (by decide) (by decide) rfl hw1 hG.2.2.2.2.1.2.1 hd
    · exact k_anewarray hx hb ⟨hR.1, hR.2.1⟩ hlo hown hG.1 (by decide) (by decide) rfl hw1 hG.2.2.2.2.1.2.2.1 hd
  case multianewarray idx n2 =>
    obtain rfl := hn (by intros; intro q; cases q) (by intros; intro q; cases q)
    simp only [decide_eq_true_eq] at hst
    subst hst
    exact k_multianewarray hx hb ⟨hR.1, hR.2.1⟩ hlo hown hG.1 (hts _ (hwd _ (by simp [eWd]))) hG.2.2.2.2.1.2.2.2 (hts _ (hwd _ (by simp [eWd]))) hd
  case ldc idx => obtain rfl := hn (by intros; intro q; cases q) (by intros; intro q; cases q); exact k_ldc hx hb hown (hts _ (hwd _ (by simp [eWd]))) rfl hd
  case ldc_w idx => obtain rfl := hn (by intros; intro q; cases q) (by intros; intro q; cases q); exact k_ldc_w hx hb hown (hts _ (hwd _ (by simp [eWd]))) rfl hd
  case ldc2_w idx => obtain rfl := hn (by intros; intro q; cases q) (by intros; intro q; cases q); exact k_ldc2_w hx hb hown (hts _ (hwd _ (by simp [eWd]))) rfl hd
  case ireturn =>
    obtain rfl := hn (by intros; intro q; cases q) (by intros; intro q; cases q)
    simp only [Bool.or_eq_true, decide_eq_true_eq] at hst
    exact k_ireturn hx hb hlocks (by rcases hret with q | q | q | q | q; · omega
                                     · exact Or.inl q
                                     · omega
                                     · omega
                                     · exact Or.inr q) hd
  case lreturn =>
    obtain rfl := hn (by intros; intro q; cases q) (by intros; intro q; cases q)
    simp only [decide_eq_true_eq] at hst
    exact k_lreturn hx hb hlocks (by rcases hret with q | q | q | q | q; · omega
                                     · omega
                                     · exact q
                                     · omega
                                     · omega) hd
  case areturn =>
    obtain rfl := hn (by intros; intro q; cases q) (by intros; intro q; cases q)
    simp only [decide_eq_true_eq] at hst
    obtain ⟨C, hC⟩ : ∃ C, meth.sig.returnType = some (.object C) := by
      rcases hret with q | q | q | q | q
      · omega
      · omega
      · omega
      · exact q.2
      · omega
    exact k_areturn hx hb hlocks ⟨hst, hC⟩ (Or.inl ⟨C, rfl⟩) hd
  case return_ =>
    obtain rfl := hn (by intros; intro q; cases q) (by intros; intro q; cases q)
    simp only [decide_eq_true_eq] at hst
    exact k_return hx hb hlocks (by rcases hret with q | q | q | q | q; · exact q
                                    · omega
                                    · omega
                                    · omega
                                    · omega) hd
  case invokevirtual idx =>
    obtain rfl := hn (by intros; intro q; cases q) (by intros; intro q; cases q)
    simp only [Bool.and_eq_true, decide_eq_true_eq] at hst
    exact k_invokevirtual hx hb hml hlocks hts hown hG hlo hR hmd hhan hdec hwd ⟨hst.1.1, hst.1.2, hst.2⟩ (hn3 _ rfl) hd
  case invokestatic idx =>
    obtain rfl := hn (by intros; intro q; cases q) (by intros; intro q; cases q)
    by_cases h2 : a2 = 2
    · subst h2
      exact k_mmin hx hb hml ⟨hR.1, hR.2.1, by omega, by omega⟩ hown rfl (hts _ (hwd _ (by simp [eWd]))) (hts _ (hwd _ (by simp [eWd]))) (hts _ (hwd _ (by simp [eWd]))) (hts _ (hwd _ (by simp [eWd]))) hd
    · have hst2 : (eCe a1 a3 a5 a6 && decide (a2 < 2)) = true := by
        rcases a2 with _ | _ | _ | k
        · exact hst
        · exact hst
        · exact absurd rfl h2
        · exact hst
      simp only [Bool.and_eq_true, decide_eq_true_eq] at hst2
      exact k_invokestatic hx hb hml hlocks hts hown hG hlo hR hmd hhan hdec hwd ⟨hst2.1, hst2.2⟩ hd (hn2 _ rfl)
  case invokespecial idx =>
    obtain rfl := hn (by intros; intro q; cases q) (by intros; intro q; cases q)
    by_cases h0 : a2 = 0
    · subst h0
      exact k_objInit hx hb hml ⟨by omega, by omega⟩ hown (hts _ (hwd _ (by simp [eWd]))) (hts _ (hwd _ (by simp [eWd]))) (hts _ (hwd _ (by simp [eWd]))) rfl hd
    · simp only [Bool.and_eq_true, Bool.or_eq_true, decide_eq_true_eq] at hst
      rcases hst with q | q
      · exact absurd q h0
      · rcases hn1 _ rfl with w | w
        · exact absurd w h0
        · exact k_invokespecial hx hb hml hlocks hts hown hG hlo hR hmd hhan hdec hwd ⟨q.1.1.1.1, q.1.1.1.2, q.1.1.2, q.1.2, q.2⟩ h0 w.1 w.2.1 hd w.2.2
  all_goals exact trivial
end EST6
