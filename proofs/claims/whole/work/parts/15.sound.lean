/-! the evaluator's runs are the machine's -/
def eRet (rt : Nat) (ret : Option FieldType) : Prop := (rt = 0 ∧ ret = none) ∨ (rt = 1 ∧ ret = some .int) ∨ (rt = 2 ∧ ret = some .long) ∨ (rt = 3 ∧ ∃ C, ret = some (.object C)) ∨ (rt = 4 ∧ ret = some .boolean)
/-- the handlers as the evaluator has them, and as the class file has them -/
def eHs (own : String) : List (Nat × Nat × Nat × Nat) → List (Nat × Nat × Nat × Nat) → Prop
  | [], [] => True
  | x :: t, y :: u => x.1 = y.1 ∧ x.2.1 = y.2.1 ∧ x.2.2.1 = y.2.2.1 ∧ y.2.2.2 ≠ 0 ∧ x.2.2.2 < 3 ∧ Jvm.Cond.classLink own y.2.2.2 (eXN x.2.2.2) ∈ eGW ∧ eHs own t u
  | _, _ => False
def eMok (y : Nat) (md : eM) : Prop := ∃ (cc : ByteArray) (init : Bool) (ret : Option FieldType), eMk cc init md ∧ plainName (eYn y).cls = true ∧ eRNm md.1 = (eYn y).cls ∧ (init = true → (eYn y).name = "<init>") ∧ eRet md.2.2.1 ret ∧
  ((md.2.2.2.2.2.1 = [] ∧ eCW y = .code (eYn y) cc md.2.1 ret) ∨ (md.2.2.2.2.2.1 ≠ [] ∧ ∃ hh, eCW y = .codeWith (eYn y) cc md.2.1 ret hh ∧ eHs (eRNm md.1) md.2.2.2.2.2.1 hh))
theorem e_ne3 {a c : Nat} (ha : a < 3) (hc : c < 3) (n : a ≠ c) : (eXN a, eXN c) ∈ eNP := by
  have h1 : a = 0 ∨ a = 1 ∨ a = 2 := by omega
  have h2 : c = 0 ∨ c = 1 ∨ c = 2 := by omega
  rcases h1 with rfl | rfl | rfl <;> rcases h2 with rfl | rfl | rfl <;> first | exact absurd rfl n | (simp [eNP, eXN]; done)
theorem e_cast {a : Nat} (ha : a < 3) : Jvm.Cond.castable (eXN a) (eXN a) ∈ eNW := by
  have h1 : a = 0 ∨ a = 1 ∨ a = 2 := by omega
  rcases h1 with rfl | rfl | rfl <;> simp [eNW, eXN]
theorem ehand_lt {own : String} {pc E hp : Nat} : ∀ (hs hh : List (Nat × Nat × Nat × Nat)), eHs own hs hh → ehand hs pc E = some hp → E < 3
  | [], [], _, h => by cases h
  | x :: t, y :: u, h, h2 => by
    obtain ⟨-, -, -, -, h5, -, h7⟩ := h
    unfold ehand at h2
    by_cases q : x.1 ≤ pc ∧ pc < x.2.1 ∧ x.2.2.2 = E
    · rw [← q.2.2]; exact h5
    · rw [if_neg q] at h2
      exact ehand_lt t u h7 h2
  | [], y :: u, h, _ => h.elim
  | x :: t, [], h, _ => h.elim
theorem eHan_of {s : State} {args : Array Value} {c9 : Code} {own : String} {lo : Nat} {D : va_G} {cy : Nat → ClassId} (hts : ∀ w ∈ eGW, w.before args s = true) (hG : eG lo D cy s s.heap) (hs hh : List (Nat × Nat × Nat × Nat)) (hne : hs ≠ []) (h : eHs own hs hh) (ht : c9.exceptionTable.toList = tableOf hh) : eHan s args c9 own hs := by
  refine ⟨fun q => absurd q hne, fun pc E hp hq => ?_⟩
  have hE := ehand_lt hs hh h hq
  rw [ht]
  clear ht hne
  induction hs generalizing hh with
  | nil => cases hq
  | cons x t ih =>
    cases hh with
    | nil => exact h.elim
    | cons y u =>
      obtain ⟨h1, h2, h3, h4, h5, h6, h7⟩ := h
      unfold ehand at hq
      by_cases q : x.1 ≤ pc ∧ pc < x.2.1 ∧ x.2.2.2 = E
      · rw [if_pos q] at hq
        refine ⟨[], ⟨y.1, y.2.1, y.2.2.1, y.2.2.2⟩, tableOf u, eXN x.2.2.2, rfl, fun z hz => absurd hz List.not_mem_nil, ?_, h4, hts _ h6, ?_, ?_⟩
        · show (decide (y.1 ≤ pc) && decide (pc < y.2.1)) = true
          rw [Bool.and_eq_true, decide_eq_true_eq, decide_eq_true_eq, ← h1, ← h2]
          exact ⟨q.1, q.2.1⟩
        · rw [q.2.2]
          exact va_Nw.use rfl (hG.2.1 _ (e_cast hE))
        · rw [← h3]
          exact Option.some.inj hq
      · rw [if_neg q] at hq
        obtain ⟨pre, z, suf, name, s1, s2, s3, s4, s5, s6, s7⟩ := ih u h7 hq
        refine ⟨⟨y.1, y.2.1, y.2.2.1, y.2.2.2⟩ :: pre, z, suf, name, ?_, fun w hw => ?_, s3, s4, s5, s6, s7⟩
        · show _ :: tableOf u = _
          rw [s1]
          rfl
        · rcases List.mem_cons.mp hw with rfl | hw
          · by_cases hcv : x.1 ≤ pc ∧ pc < x.2.1
            · refine Or.inr ⟨h4, eXN x.2.2.2, hts _ h6, hG.2.2.2.1 _ (e_ne3 hE h5 (fun w => q ⟨hcv.1, hcv.2, w.symm⟩))⟩
            · refine Or.inl ?_
              show (decide (y.1 ≤ pc) && decide (pc < y.2.1)) = false
              rw [Bool.and_eq_false_iff, decide_eq_false_iff_not, decide_eq_false_iff_not, ← h1, ← h2]
              by_cases h9 : x.1 ≤ pc
              · exact Or.inr (fun w => hcv ⟨h9, w⟩)
              · exact Or.inl h9
          · exact s2 w hw
theorem e_sl (lo b : Nat) (as : List eV) : (lg_sl (as.map (eVal lo b))).length = ecats as := by
  induction as with
  | nil => rfl
  | cons v t ih =>
    show (((if (eVal lo b v).category = 2 then [Slot.val (eVal lo b v), Slot.second] else [Slot.val (eVal lo b v)]) ++ lg_sl (t.map (eVal lo b)))).length = ecat v + ecats t
    rw [List.length_append, ih, eVal_cat]
    rcases v with x | x | r <;> rfl
theorem e_sound {l : Launch} {ex : Bool} {lo b : Nat} {D : va_G} {cy : Nat → ClassId} (hl : l.stackTraces = false) (hT : ∀ y md, mt y = some md → eMok y md) : ∀ d y as h o, Ew ex d y as h o → eCon l ex lo b D cy d y as h o := by
  intro d
  induction d with
  | zero => exact fun y as h o hE => hE.elim
  | succ d ih =>
    intro y as h o hE
    obtain ⟨md, hm, hcat, n, hE⟩ := hE
    refine ⟨md, hm, ?_⟩
    obtain ⟨cc, init, ret, hMk, hpl, hown, hinit, hret, hcw⟩ := hT y md hm
    have fin : ∀ (p : Program) (e : Env) (s : State) (m : MethodId) (args : Array Value) (below : List Frame) (meth : Method) (c : Code) (s₁ : State), BodyLoose p l (eYn y) (headSpec (eWs y) (eRm (d + 1) md.2.2.2.1 md.2.2.2.2.1)) cc md.2.1 ret e s m args below meth c s₁ → c.maxLocals = md.2.1 → eHan s args c (eRNm md.1) md.2.2.2.2.2.1 → eP ex lo b D cy as h args s →
        W p l e (headSpec (eWs y) (eRm (d + 1) md.2.2.2.1 md.2.2.2.2.1)).room s m args below meth c s.heap [] 0 0 (vx_MQ below (eQc ex lo b D cy o) (eXc ex lo b D cy o) args s md.2.2.2.1 md.2.2.2.2.1 (fun q => lo ≤ q)) (entryFrame m args md.2.1) := by
      intro p e s m args below meth c s₁ B hml hhan hv
      obtain ⟨hargs, hrel, hG, hlo⟩ := hv
      have hts := atoms_spec (ws := eWs y) B.pre
      have hown' : s.vm.findClass (eRNm md.1) = some m.cls := by rw [hown]; exact findClass_of_methodNamed B.named
      have hF : eFr p l (headSpec (eWs y) (eRm (d + 1) md.2.2.2.1 md.2.2.2.2.1)).room s m args meth c cc lo b D cy md.2.1 md.2.2.2.1 md.2.2.2.2.1 d md.1 init md.2.2.1 none md.2.2.2.2.2.1 := by
        refine ⟨B.exec, B.bytes, hl, hml, B.notSynchronized, fun w hw => hts w (List.mem_cons_of_mem _ hw), hown', hG, hlo, ⟨rfl, rfl, by show d + 13 ≤ d + 1 + 12; omega, by show 45 * d + 445 ≤ 45 * (d + 1) + 400; omega⟩, hhan, (fun X h => nomatch h), fun q => ?_, ?_⟩
        · rw [(name_of_methodNamed B.named B.method).1]
          exact hinit q
        · rw [B.returns]
          exact hret
      have hk := e_run (p := p) (l := l) (e := e) (below := below) (ex := ex) (Q := vx_MQ below (eQc ex lo b D cy o) (eXc ex lo b D cy o) args s md.2.2.2.1 md.2.2.2.2.1 (fun q => lo ≤ q)) (out := o) hF hMk (cal := Ew ex d) ih rfl (0, eargs 0 as, [], h, 0, 0) hE
      rw [hargs, lg_entry_eq, ← hargs]
      refine hk _ s.heap [] ?_ hrel va_S.rf (Nat.zero_le _) (Nat.zero_le _)
      have h9 := lv_entry (as.map (eVal lo b)) (n := md.2.1) (by rw [e_sl]; exact hcat)
      rw [eargs_map] at h9
      exact h9
    rcases hcw with ⟨hhs, hcw⟩ | ⟨hhs, hh, hcw, hH⟩
    · exact vx_ofW (ws' := eGW) hpl (by show eCW y :: eGW = _; rw [hcw]) (fun p e s m args below meth c s₁ B hml hno hv => fin p e s m args below meth c s₁ B hml ⟨fun _ => hno, fun pc E hp hq => by rw [hhs] at hq; cases hq⟩ hv)
    · refine vx_ofWH (ws' := eGW) (hh := hh) hpl (by show eCW y :: eGW = _; rw [hcw]) (fun p e s m args below meth c s₁ B hml hv => fin p e s m args below meth c s₁ B hml ?_ hv)
      have hts := atoms_spec (ws := eWs y) B.pre
      have htab := vx_table (x := eYn y) B (hh := hh) (bytes := cc) (maxL' := md.2.1) (ret' := ret) (by rw [← hcw]; exact hts _ List.mem_cons_self)
      exact eHan_of (fun w hw => hts w (List.mem_cons_of_mem _ hw)) hv.2.2.1 _ hh hhs hH htab
