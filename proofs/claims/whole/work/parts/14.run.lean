/-! a run of the evaluator is a run of the machine -/
/-- n steps; at any time some locals may be forgotten, or put in another order -/
def EwN (ex : Bool) (sc : Option (Nat × (Nat → Int32))) (cal : Nat → List eV → eH → eR → Prop) (md : eM) : Nat → eS → eR → Prop
  | 0, _, _ => False
  | n + 1, s, out => (∃ ls' : eL, (∀ q ∈ ls', q ∈ s.2.1) ∧ EwN ex sc cal md n (s.1, ls', s.2.2) out) ∨ (match stp ex sc md s with
    | .inl s' => EwN ex sc cal md n s' out
    | .inr (.inl r) => out = r
    | .inr (.inr (.inl (y, as, h, pc, ls, rest, c, z, _))) => ∃ o, cal y as h o ∧ (match o with
      | .inl (v, h') => EwN ex sc cal md n (pc + 3, ls, v.toList ++ rest, h', c, z) out
      | .inr (E, h') => match ehand md.2.2.2.2.2.1 pc E with
        | some hp => match ecatch md hp ls with
          | some (pc2, ls2) => EwN ex sc cal md n (pc2, ls2, [], h', c, z) out
          | none => False
        | none => md.2.2.2.2.2.1 = [] ∧ out = .inr (E, h'))
    | .inr (.inr (.inr _)) => False)
/-- method y, called with as in h, ends as o says, with calls at most d deep -/
def Ew (ex : Bool) : Nat → Nat → List eV → eH → eR → Prop
  | 0, _, _, _, _ => False
  | d + 1, y, as, h, o => ∃ md, mt y = some md ∧ ecats as ≤ md.2.1 ∧ ∃ n, EwN ex none (Ew ex d) md n (0, eargs 0 as, [], h, 0, 0) o
section EST7
variable {p : Program} {l : Launch} {e : Env} {R : Room} {s : State} {m : MethodId} {args : Array Value} {below : List Frame} {meth : Method} {c9 : Code} {Q : State → Prop}
variable {ex : Bool} {lo b : Nat} {D : va_G} {cy : Nat → ClassId} {maxL mc ms : Nat} {cal : Nat → List eV → eH → eR → Prop} {md : eM}
variable {sc : Option (Nat × (Nat → Int32))} {rt a1 a2 a3 a4 a5 a6 : Nat} {pc : Nat} {ls : eL} {st : List eV} {h : eH} {c z : Nat} {cc : ByteArray} {S : eS} {k : eO}
variable {d oc : Nat}

/-- what is known of the frame in which a method runs -/
def eFr (p : Program) (l : Launch) (R : Room) (s : State) (m : MethodId) (args : Array Value) (meth : Method) (c9 : Code) (cc : ByteArray) (lo b : Nat) (D : va_G) (cy : Nat → ClassId) (maxL mc ms d oc : Nat) (init : Bool) (rt : Nat) (sc : Option (Nat × (Nat → Int32))) (hs : List (Nat × Nat × Nat × Nat)) : Prop :=
  p.tables.exec = Jvm.exec ∧ c9.code = cc ∧ l.stackTraces = false ∧ c9.maxLocals = maxL ∧ meth.locks = false ∧ (∀ w ∈ eGW, w.before args s = true) ∧ s.vm.findClass (eRNm oc) = some m.cls ∧ eG lo D cy s s.heap ∧ lo ≤ s.heap.size ∧
  (R.cells = mc ∧ R.slots = ms ∧ d + 13 ≤ R.frames ∧ 45 * d + 445 ≤ R.locals) ∧ eHan s args c9 (eRNm oc) hs ∧ (∀ X, sc = some X → va_X b X.1 X.2 s s.heap ∧ b < s.heap.size ∧ b < lo) ∧ (init = true → meth.name = "<init>") ∧
  ((rt = 0 ∧ meth.sig.returnType = none) ∨ (rt = 1 ∧ meth.sig.returnType = some .int) ∨ (rt = 2 ∧ meth.sig.returnType = some .long) ∨ (rt = 3 ∧ ∃ C, meth.sig.returnType = some (.object C)) ∨ (rt = 4 ∧ meth.sig.returnType = some .boolean))
/-- what is checked of a method's code -/
def eMk (cc : ByteArray) (init : Bool) (md : eM) : Prop :=
  md.2.2.2.2.2.2.all (eSt cc init (eRNm md.1) md.2.2.1) = true ∧ (∀ w ∈ eWds md.1 md.2.2.2.2.2.2, w ∈ eGW) ∧ md.2.2.2.2.2.2.all (fun x => match x.2 with
    | (.invokespecial idx, a, b, _) => decide (b = 0) || (decide (a < 206) && (match eCW a with | .code _ _ _ r => decide (r = none) | _ => false) && (!decide (b = 2) || decide (Jvm.Cond.methodLinkNest (eRNm md.1) idx (eYn a) RX11 ∈ eNW)))
    | (.invokestatic idx, a, b, _) => !decide (b = 1) || (decide (a < 206) && decide (Jvm.Cond.methodLinkNest (eRNm md.1) idx (eYn a) RX11 ∈ eNW))
    | (.invokevirtual _, a, _) => decide (a < 206)
    | (.new _, _, b, _) => decide (b = 0) || md.2.2.2.2.2.1.isEmpty
    | _ => true) = true
theorem e_one {init : Bool} (hF : eFr p l R s m args meth c9 cc lo b D cy md.2.1 md.2.2.2.1 md.2.2.2.2.1 d md.1 init md.2.2.1 sc md.2.2.2.2.2.1) (hM : eMk cc init md) : eSok p l e R s m args below meth c9 Q ex lo b D cy md.2.1 md.2.2.2.1 md.2.2.2.2.1 (eCon l ex lo b D cy d) md (stp ex sc md S) S := by
  obtain ⟨hx, hb, hl, hml, hlocks, hts, hown, hG, hlo, hR, hhan, hsc, hinit, hret⟩ := hF
  obtain ⟨m1, m2, m3⟩ := hM
  obtain ⟨pc, ls, st, h, c, z⟩ := S
  unfold stp
  cases hel : elk md.2.2.2.2.2.2 pc with
  | none => exact trivial
  | some q =>
    obtain ⟨i, a1, a2, a3, a4, a5, a6⟩ := q
    have hmem := elk_mem hel
    have hst := List.all_eq_true.mp m1 _ hmem
    have hnn := List.all_eq_true.mp m3 _ hmem
    refine e_step hx hb hl hml hlocks hts hown hG hlo hR rfl hhan ?_ hsc hinit hret (fun w hw => m2 w (List.mem_flatMap.mpr ⟨_, hmem, hw⟩)) hst ?_ ?_ ?_ ?_
    · intro q i a hq
      have h9 := List.all_eq_true.mp m1 _ (elk_mem hq)
      unfold eSt at h9
      rw [Bool.and_eq_true] at h9
      obtain ⟨n9, g9, f9, -⟩ := eDc_spec h9.1
      refine ⟨fun w => ?_, fun w => ?_⟩
      · obtain ⟨n, rfl⟩ := w
        obtain rfl := f9 (by intros; intro q; cases q) (by intros; intro q; cases q)
        exact g9
      · obtain ⟨n, rfl⟩ := w
        obtain rfl := f9 (by intros; intro q; cases q) (by intros; intro q; cases q)
        exact g9
    · intro idx hi
      subst hi
      simp only [Bool.and_eq_true, Bool.or_eq_true, decide_eq_true_eq, Bool.not_eq_true', decide_eq_false_iff_not] at hnn
      rcases hnn with w | ⟨⟨w1, w2⟩, w3⟩
      · exact Or.inl w
      · refine Or.inr ⟨w1, fun bytes mL ret hcw => ?_, fun w => ?_⟩
        · rw [hcw] at w2
          exact of_decide_eq_true w2
        · rcases w3 with w3 | w3
          · exact absurd w w3
          · exact w3
    · intro idx hi h1
      subst hi
      simp only [Bool.and_eq_true, Bool.or_eq_true, decide_eq_true_eq, Bool.not_eq_true', decide_eq_false_iff_not] at hnn
      rcases hnn with w | w
      · exact absurd h1 w
      · exact ⟨w.2, w.1⟩
    · intro idx hi
      subst hi
      simp only [decide_eq_true_eq] at hnn
      exact hnn
    · intro idx hi h0 x hx
      subst hi
      simp only [Bool.or_eq_true, decide_eq_true_eq] at hnn
      rcases hnn with w | w
      · exact absurd w h0
      · exact hhan.1 (List.isEmpty_iff.mp w) x hx
/-- a run that ends -/
theorem e_run {init : Bool} {out : eR} {n : Nat} (hF : eFr p l R s m args meth c9 cc lo b D cy md.2.1 md.2.2.2.1 md.2.2.2.2.1 d md.1 init md.2.2.1 sc md.2.2.2.2.2.1) (hM : eMk cc init md) {cal : Nat → List eV → eH → eR → Prop} (hcal : ∀ y as h o, cal y as h o → eCon l ex lo b D cy d y as h o)
    (hQ : Q = eMQ below args s md.2.2.2.1 md.2.2.2.2.1 ex lo b D cy out) : ∀ S, EwN ex sc cal md n S out → eWat p l e R s m args below meth c9 Q ex lo b D cy md.2.1 md.2.2.2.1 md.2.2.2.2.1 S := by
  induction n with
  | zero => exact fun S h => h.elim
  | succ n ih =>
    intro S hE
    have h1 := e_one (e := e) (below := below) (Q := Q) (ex := ex) (S := S) hF hM
    unfold EwN at hE
    rcases hE with ⟨ls', hls, hE⟩ | hE
    · intro Ls H locs g1 g2 g3 g4 g5
      refine ih _ hE Ls H locs ⟨g1.1, g1.2.1, fun q hq => ?_⟩ g2 g3 g4 g5
      obtain ⟨w, hw, rfl⟩ := List.mem_map.mp hq
      exact g1.2.2 _ (List.mem_map.mpr ⟨w, hls w hw, rfl⟩)
    generalize stp ex sc md S = o at hE h1
    rcases o with S' | (r | (⟨y, as, h, pc, ls, rest, c, z, w⟩ | u))
    · exact h1 (ih S' hE)
    · subst hE
      exact h1 hQ
    · obtain ⟨o, hc, hn⟩ := hE
      refine h1 o (hcal _ _ _ _ hc) ?_
      rcases o with ⟨v, h'⟩ | ⟨E, h'⟩
      · exact ih _ hn
      · dsimp only at hn
        unfold eNext
        dsimp only
        cases hh : ehand md.2.2.2.2.2.1 pc E with
        | none =>
          rw [hh] at hn
          dsimp only at hn ⊢
          refine ⟨hn.1, ?_⟩
          rw [← hn.2]
          exact hQ
        | some hp =>
          rw [hh] at hn
          dsimp only at hn ⊢
          cases hc2 : ecatch md hp ls with
          | none =>
            rw [hc2] at hn
            exact hn
          | some w =>
            obtain ⟨pc2, ls2⟩ := w
            rw [hc2] at hn
            exact ih _ hn
    · exact hE.elim
end EST7
