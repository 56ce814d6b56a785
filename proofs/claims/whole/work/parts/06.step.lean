/-! one step of the evaluator is one step of the machine: what moves no heap -/
def eXN : Nat → String
  | 0 => "java/lang/IndexOutOfBoundsException"
  | 1 => "java/lang/IllegalArgumentException"
  | _ => "java/lang/IllegalStateException"
def eQc (ex : Bool) (lo b : Nat) (D : va_G) (cy : Nat → ClassId) (r : eR) : Array Value → State → Outcome → State → Prop := fun _ st oc t => match r with
  | .inl (v, h') => oc = .returned (v.map (eVal lo b)) ∧ eRel ex D cy lo b h' t.heap ∧ va_F (fun q => lo ≤ q) st t
  | .inr _ => False
def eXc (ex : Bool) (lo b : Nat) (D : va_G) (cy : Nat → ClassId) (r : eR) : String → State → State → Prop := fun E st t => match r with
  | .inl _ => False
  | .inr (x, h') => E = eXN x ∧ eRel ex D cy lo b h' t.heap ∧ va_F (fun q => lo ≤ q) st t
def eMQ (below : List Frame) (args : Array Value) (s : State) (mc ms : Nat) (ex : Bool) (lo b : Nat) (D : va_G) (cy : Nat → ClassId) (r : eR) : State → Prop :=
  vx_MQ below (eQc ex lo b D cy r) (eXc ex lo b D cy r) args s mc ms (fun q => lo ≤ q)
/-- from the evaluator's state S the machine comes to an end with Q -/
def eWat (p : Program) (l : Launch) (e : Env) (R : Room) (s : State) (m : MethodId) (args : Array Value) (below : List Frame) (meth : Method) (c9 : Code) (Q : State → Prop) (ex : Bool) (lo b : Nat) (D : va_G) (cy : Nat → ClassId) (maxL mc ms : Nat) (S : eS) : Prop :=
  ∀ (Ls : Array Slot) (H : Heap) (locs : List Loc), lv_has Ls maxL (eMap lo b S.2.1) → eRel ex D cy lo b S.2.2.2.1 H → va_S (fun q => lo ≤ q) s.heap H locs → S.2.2.2.2.1 ≤ mc → S.2.2.2.2.2 ≤ ms →
    W p l e R s m args below meth c9 H locs S.2.2.2.2.1 S.2.2.2.2.2 Q (F0 m S.1 Ls (S.2.2.1.map (eVal lo b)))
def eNext (p : Program) (l : Launch) (e : Env) (R : Room) (s : State) (m : MethodId) (args : Array Value) (below : List Frame) (meth : Method) (c9 : Code) (Q : State → Prop) (ex : Bool) (lo b : Nat) (D : va_G) (cy : Nat → ClassId) (maxL mc ms : Nat) (md : eM) (o : eR) (pc : Nat) (ls : eL) (rest : List eV) (c z : Nat) : Prop := match o with
  | .inl (v, h') => eWat p l e R s m args below meth c9 Q ex lo b D cy maxL mc ms (pc + 3, ls, v.toList ++ rest, h', c, z)
  | .inr (E, h') => match ehand md.2.2.2.2.2.1 pc E with
    | some hp => match ecatch md hp ls with
      | some (pc2, ls2) => eWat p l e R s m args below meth c9 Q ex lo b D cy maxL mc ms (pc2, ls2, [], h', c, z)
      | none => False
    | none => md.2.2.2.2.2.1 = [] ∧ Q = eMQ below args s mc ms ex lo b D cy (.inr (E, h'))
def eSok (p : Program) (l : Launch) (e : Env) (R : Room) (s : State) (m : MethodId) (args : Array Value) (below : List Frame) (meth : Method) (c9 : Code) (Q : State → Prop) (ex : Bool) (lo b : Nat) (D : va_G) (cy : Nat → ClassId) (maxL mc ms : Nat) (cal : Nat → List eV → eH → eR → Prop) (md : eM) (o : eO) (S : eS) : Prop := match o with
  | .inl S' => eWat p l e R s m args below meth c9 Q ex lo b D cy maxL mc ms S' → eWat p l e R s m args below meth c9 Q ex lo b D cy maxL mc ms S
  | .inr (.inl r) => Q = eMQ below args s mc ms ex lo b D cy r → eWat p l e R s m args below meth c9 Q ex lo b D cy maxL mc ms S
  | .inr (.inr (.inl (y, as, h, pc, ls, rest, c, z, _))) => ∀ o, cal y as h o → eNext p l e R s m args below meth c9 Q ex lo b D cy maxL mc ms md o pc ls rest c z → eWat p l e R s m args below meth c9 Q ex lo b D cy maxL mc ms S
  | .inr (.inr (.inr _)) => True
section EST
variable {p : Program} {l : Launch} {e : Env} {R : Room} {s : State} {m : MethodId} {args : Array Value} {below : List Frame} {meth : Method} {c9 : Code} {Q : State → Prop}
variable {ex : Bool} {lo b : Nat} {D : va_G} {cy : Nat → ClassId} {maxL mc ms : Nat} {cal : Nat → List eV → eH → eR → Prop} {md : eM}
variable {sc : Option (Nat × (Nat → Int32))} {rt a1 a2 a3 a4 a5 a6 : Nat} {pc : Nat} {ls : eL} {st : List eV} {h : eH} {c z : Nat} {cc : ByteArray} {S : eS} {k : eO}

theorem k_stk : eSok p l e R s m args below meth c9 Q ex lo b D cy maxL mc ms cal md estk S := trivial
theorem k_epI {k : Int32 → List eV → eO} (h : ∀ x t, st = .inl x :: t → eSok p l e R s m args below meth c9 Q ex lo b D cy maxL mc ms cal md (k x t) S) : eSok p l e R s m args below meth c9 Q ex lo b D cy maxL mc ms cal md (epI st k) S := by
  rcases st with _ | ⟨x | x | x, t⟩
  · exact trivial
  · exact h x t rfl
  · exact trivial
  · exact trivial
theorem k_epJ {k : Int64 → List eV → eO} (h : ∀ x t, st = .inr (.inl x) :: t → eSok p l e R s m args below meth c9 Q ex lo b D cy maxL mc ms cal md (k x t) S) : eSok p l e R s m args below meth c9 Q ex lo b D cy maxL mc ms cal md (epJ st k) S := by
  rcases st with _ | ⟨x | x | x, t⟩
  · exact trivial
  · exact trivial
  · exact h x t rfl
  · exact trivial
theorem k_epR {k : Nat → List eV → eO} (h : ∀ x t, st = .inr (.inr x) :: t → eSok p l e R s m args below meth c9 Q ex lo b D cy maxL mc ms cal md (k x t) S) : eSok p l e R s m args below meth c9 Q ex lo b D cy maxL mc ms cal md (epR st k) S := by
  rcases st with _ | ⟨x | x | x, t⟩
  · exact trivial
  · exact trivial
  · exact trivial
  · exact h x t rfl
theorem k_eldI {w : Option eV} {k : Int32 → eO} (h : ∀ x, w = some (.inl x) → eSok p l e R s m args below meth c9 Q ex lo b D cy maxL mc ms cal md (k x) S) : eSok p l e R s m args below meth c9 Q ex lo b D cy maxL mc ms cal md (eldI w k) S := by
  rcases w with _ | (x | x | x)
  · exact trivial
  · exact h x rfl
  · exact trivial
  · exact trivial
theorem k_eldJ {w : Option eV} {k : Int64 → eO} (h : ∀ x, w = some (.inr (.inl x)) → eSok p l e R s m args below meth c9 Q ex lo b D cy maxL mc ms cal md (k x) S) : eSok p l e R s m args below meth c9 Q ex lo b D cy maxL mc ms cal md (eldJ w k) S := by
  rcases w with _ | (x | x | x)
  · exact trivial
  · exact trivial
  · exact h x rfl
  · exact trivial
theorem k_eldR {w : Option eV} {k : Nat → eO} (h : ∀ x, w = some (.inr (.inr x)) → eSok p l e R s m args below meth c9 Q ex lo b D cy maxL mc ms cal md (k x) S) : eSok p l e R s m args below meth c9 Q ex lo b D cy maxL mc ms cal md (eldR w k) S := by
  rcases w with _ | (x | x | x)
  · exact trivial
  · exact trivial
  · exact trivial
  · exact h x rfl
theorem k_if {P : Prop} {_ : Decidable P} {A B : eO} (h1 : P → eSok p l e R s m args below meth c9 Q ex lo b D cy maxL mc ms cal md A S) (h2 : ¬ P → eSok p l e R s m args below meth c9 Q ex lo b D cy maxL mc ms cal md B S) : eSok p l e R s m args below meth c9 Q ex lo b D cy maxL mc ms cal md (if P then A else B) S := by
  by_cases q : P
  · rw [if_pos q]; exact h1 q
  · rw [if_neg q]; exact h2 q
theorem k_chk {P : Prop} {_ : Decidable P} {A : eO} (h1 : P → eSok p l e R s m args below meth c9 Q ex lo b D cy maxL mc ms cal md A S) : eSok p l e R s m args below meth c9 Q ex lo b D cy maxL mc ms cal md (if P then A else estk) S := k_if h1 (fun _ => trivial)
theorem k_ejmp {off : Int} {f : Nat → eO} (h : ∀ tgt : Nat, (pc : Int) + off = (tgt : Int) → eSok p l e R s m args below meth c9 Q ex lo b D cy maxL mc ms cal md (f tgt) S) : eSok p l e R s m args below meth c9 Q ex lo b D cy maxL mc ms cal md (ejmp pc off f) S := by
  unfold ejmp
  refine k_chk fun q => h _ ?_
  omega
theorem k_iload_n {n : Fin 4} (hx : p.tables.exec = Jvm.exec) (hb : c9.code = cc) (hd : decode cc pc = .ok (.iload_n n, 1)) : eSok p l e R s m args below meth c9 Q ex lo b D cy maxL mc ms cal md (stI ex sc rt mc ms maxL (.iload_n n) a1 a2 a3 a4 a5 a6 pc ls st h c z) (pc, ls, st, h, c, z) := by
  refine k_eldI fun x hg => fun hw Ls H locs h1 h2 h3 h4 h5 => ?_
  exact lv_iload_n hx hb hd rfl (eMap_get h1 hg) (hw Ls H locs h1 h2 h3 h4 h5)
theorem k_iload {n : Nat} (hx : p.tables.exec = Jvm.exec) (hb : c9.code = cc) (hd : decode cc pc = .ok (.iload n, 2)) : eSok p l e R s m args below meth c9 Q ex lo b D cy maxL mc ms cal md (stI ex sc rt mc ms maxL (.iload n) a1 a2 a3 a4 a5 a6 pc ls st h c z) (pc, ls, st, h, c, z) := by
  refine k_eldI fun x hg => fun hw Ls H locs h1 h2 h3 h4 h5 => ?_
  exact lv_iload hx hb hd (eMap_get h1 hg) (hw Ls H locs h1 h2 h3 h4 h5)
theorem k_lload_n {n : Fin 4} (hx : p.tables.exec = Jvm.exec) (hb : c9.code = cc) (hd : decode cc pc = .ok (.lload_n n, 1)) : eSok p l e R s m args below meth c9 Q ex lo b D cy maxL mc ms cal md (stI ex sc rt mc ms maxL (.lload_n n) a1 a2 a3 a4 a5 a6 pc ls st h c z) (pc, ls, st, h, c, z) := by
  refine k_eldJ fun x hg => fun hw Ls H locs h1 h2 h3 h4 h5 => ?_
  exact lv_lload_n hx hb hd rfl (eMap_get h1 hg) (hw Ls H locs h1 h2 h3 h4 h5)
theorem k_lload {n : Nat} (hx : p.tables.exec = Jvm.exec) (hb : c9.code = cc) (hd : decode cc pc = .ok (.lload n, 2)) : eSok p l e R s m args below meth c9 Q ex lo b D cy maxL mc ms cal md (stI ex sc rt mc ms maxL (.lload n) a1 a2 a3 a4 a5 a6 pc ls st h c z) (pc, ls, st, h, c, z) := by
  refine k_eldJ fun x hg => fun hw Ls H locs h1 h2 h3 h4 h5 => ?_
  exact lv_lload hx hb hd (eMap_get h1 hg) (hw Ls H locs h1 h2 h3 h4 h5)
theorem k_aload_n {n : Fin 4} (hx : p.tables.exec = Jvm.exec) (hb : c9.code = cc) (hd : decode cc pc = .ok (.aload_n n, 1)) : eSok p l e R s m args below meth c9 Q ex lo b D cy maxL mc ms cal md (stI ex sc rt mc ms maxL (.aload_n n) a1 a2 a3 a4 a5 a6 pc ls st h c z) (pc, ls, st, h, c, z) := by
  refine k_eldR fun x hg => fun hw Ls H locs h1 h2 h3 h4 h5 => ?_
  have hg := eMap_get h1 hg
  have hk := hw Ls H locs h1 h2 h3 h4 h5
  cases x with
  | zero => exact lv_aload_nN hx hb hd rfl hg hk
  | succ r => exact lv_aload_n hx hb hd rfl hg hk
theorem k_aload {n : Nat} (hx : p.tables.exec = Jvm.exec) (hb : c9.code = cc) (hd : decode cc pc = .ok (.aload n, 2)) : eSok p l e R s m args below meth c9 Q ex lo b D cy maxL mc ms cal md (stI ex sc rt mc ms maxL (.aload n) a1 a2 a3 a4 a5 a6 pc ls st h c z) (pc, ls, st, h, c, z) := by
  refine k_eldR fun x hg => fun hw Ls H locs h1 h2 h3 h4 h5 => ?_
  have hg := eMap_get h1 hg
  have hk := hw Ls H locs h1 h2 h3 h4 h5
  cases x with
  | zero => exact lv_aloadN hx hb hd hg hk
  | succ r => exact lv_aload hx hb hd hg hk
theorem k_istore_n {n : Fin 4} (hx : p.tables.exec = Jvm.exec) (hb : c9.code = cc) (hd : decode cc pc = .ok (.istore_n n, 1)) : eSok p l e R s m args below meth c9 Q ex lo b D cy maxL mc ms cal md (stI ex sc rt mc ms maxL (.istore_n n) a1 a2 a3 a4 a5 a6 pc ls st h c z) (pc, ls, st, h, c, z) := by
  refine k_epI fun x t e1 => k_chk fun hn => fun hw Ls H locs h1 h2 h3 h4 h5 => ?_
  subst e1
  exact lv_istore_n hx hb hd rfl h1 hn (eMap_set lo b n (.inl x) ls) (fun Ls' h1' => hw Ls' H locs h1' h2 h3 h4 h5)
theorem k_istore {n : Nat} (hx : p.tables.exec = Jvm.exec) (hb : c9.code = cc) (hd : decode cc pc = .ok (.istore n, 2)) : eSok p l e R s m args below meth c9 Q ex lo b D cy maxL mc ms cal md (stI ex sc rt mc ms maxL (.istore n) a1 a2 a3 a4 a5 a6 pc ls st h c z) (pc, ls, st, h, c, z) := by
  refine k_epI fun x t e1 => k_chk fun hn => fun hw Ls H locs h1 h2 h3 h4 h5 => ?_
  subst e1
  exact lv_istore hx hb hd h1 hn (eMap_set lo b n (.inl x) ls) (fun Ls' h1' => hw Ls' H locs h1' h2 h3 h4 h5)
theorem k_lstore_n {n : Fin 4} (hx : p.tables.exec = Jvm.exec) (hb : c9.code = cc) (hd : decode cc pc = .ok (.lstore_n n, 1)) : eSok p l e R s m args below meth c9 Q ex lo b D cy maxL mc ms cal md (stI ex sc rt mc ms maxL (.lstore_n n) a1 a2 a3 a4 a5 a6 pc ls st h c z) (pc, ls, st, h, c, z) := by
  refine k_epJ fun x t e1 => k_chk fun hn => fun hw Ls H locs h1 h2 h3 h4 h5 => ?_
  subst e1
  exact lv_lstore_n hx hb hd rfl h1 hn (eMap_setJ lo b n (.inr (.inl x)) ls) (fun Ls' h1' => hw Ls' H locs h1' h2 h3 h4 h5)
theorem k_lstore {n : Nat} (hx : p.tables.exec = Jvm.exec) (hb : c9.code = cc) (hd : decode cc pc = .ok (.lstore n, 2)) : eSok p l e R s m args below meth c9 Q ex lo b D cy maxL mc ms cal md (stI ex sc rt mc ms maxL (.lstore n) a1 a2 a3 a4 a5 a6 pc ls st h c z) (pc, ls, st, h, c, z) := by
  refine k_epJ fun x t e1 => k_chk fun hn => fun hw Ls H locs h1 h2 h3 h4 h5 => ?_
  subst e1
  exact lv_lstore hx hb hd h1 hn (eMap_setJ lo b n (.inr (.inl x)) ls) (fun Ls' h1' => hw Ls' H locs h1' h2 h3 h4 h5)
theorem k_astore_n {n : Fin 4} (hx : p.tables.exec = Jvm.exec) (hb : c9.code = cc) (hd : decode cc pc = .ok (.astore_n n, 1)) : eSok p l e R s m args below meth c9 Q ex lo b D cy maxL mc ms cal md (stI ex sc rt mc ms maxL (.astore_n n) a1 a2 a3 a4 a5 a6 pc ls st h c z) (pc, ls, st, h, c, z) := by
  refine k_epR fun x t e1 => k_chk fun hn => fun hw Ls H locs h1 h2 h3 h4 h5 => ?_
  subst e1
  have hk := fun Ls' h1' => hw Ls' H locs h1' h2 h3 h4 h5
  have he := eMap_set lo b n (.inr (.inr x)) ls
  cases x with
  | zero => exact lv_astore_nN hx hb hd rfl h1 hn he hk
  | succ r => exact lv_astore_n hx hb hd rfl h1 hn he hk
theorem k_astore {n : Nat} (hx : p.tables.exec = Jvm.exec) (hb : c9.code = cc) (hd : decode cc pc = .ok (.astore n, 2)) : eSok p l e R s m args below meth c9 Q ex lo b D cy maxL mc ms cal md (stI ex sc rt mc ms maxL (.astore n) a1 a2 a3 a4 a5 a6 pc ls st h c z) (pc, ls, st, h, c, z) := by
  refine k_epR fun x t e1 => k_chk fun hn => fun hw Ls H locs h1 h2 h3 h4 h5 => ?_
  subst e1
  have hk := fun Ls' h1' => hw Ls' H locs h1' h2 h3 h4 h5
  have he := eMap_set lo b n (.inr (.inr x)) ls
  cases x with
  | zero => exact lv_astoreN hx hb hd h1 hn he hk
  | succ r => exact lv_astore hx hb hd h1 hn he hk
theorem k_aconst_null  (hx : p.tables.exec = Jvm.exec) (hb : c9.code = cc) (hd : decode cc pc = .ok (.aconst_null, 1)) : eSok p l e R s m args below meth c9 Q ex lo b D cy maxL mc ms cal md (stI ex sc rt mc ms maxL (.aconst_null) a1 a2 a3 a4 a5 a6 pc ls st h c z) (pc, ls, st, h, c, z) := by
  exact fun hw Ls H locs h1 h2 h3 h4 h5 => lv_null hx hb hd (hw Ls H locs h1 h2 h3 h4 h5)
theorem k_iconst {n : Int} (hx : p.tables.exec = Jvm.exec) (hb : c9.code = cc) (hd : decode cc pc = .ok (.iconst n, 1)) : eSok p l e R s m args below meth c9 Q ex lo b D cy maxL mc ms cal md (stI ex sc rt mc ms maxL (.iconst n) a1 a2 a3 a4 a5 a6 pc ls st h c z) (pc, ls, st, h, c, z) := by
  exact fun hw Ls H locs h1 h2 h3 h4 h5 => lv_iconst hx hb hd rfl (hw Ls H locs h1 h2 h3 h4 h5)
theorem k_bipush {n : Int} (hx : p.tables.exec = Jvm.exec) (hb : c9.code = cc) (hd : decode cc pc = .ok (.bipush n, 2)) : eSok p l e R s m args below meth c9 Q ex lo b D cy maxL mc ms cal md (stI ex sc rt mc ms maxL (.bipush n) a1 a2 a3 a4 a5 a6 pc ls st h c z) (pc, ls, st, h, c, z) := by
  exact fun hw Ls H locs h1 h2 h3 h4 h5 => lv_bipush hx hb hd rfl (hw Ls H locs h1 h2 h3 h4 h5)
theorem k_sipush {n : Int} (hx : p.tables.exec = Jvm.exec) (hb : c9.code = cc) (hd : decode cc pc = .ok (.sipush n, 3)) : eSok p l e R s m args below meth c9 Q ex lo b D cy maxL mc ms cal md (stI ex sc rt mc ms maxL (.sipush n) a1 a2 a3 a4 a5 a6 pc ls st h c z) (pc, ls, st, h, c, z) := by
  exact fun hw Ls H locs h1 h2 h3 h4 h5 => lv_sipush hx hb hd rfl (hw Ls H locs h1 h2 h3 h4 h5)
theorem k_lconst {n : Fin 2} (hx : p.tables.exec = Jvm.exec) (hb : c9.code = cc) (hd : decode cc pc = .ok (.lconst n, 1)) : eSok p l e R s m args below meth c9 Q ex lo b D cy maxL mc ms cal md (stI ex sc rt mc ms maxL (.lconst n) a1 a2 a3 a4 a5 a6 pc ls st h c z) (pc, ls, st, h, c, z) := by
  exact fun hw Ls H locs h1 h2 h3 h4 h5 => lv_lconst hx hb hd rfl (hw Ls H locs h1 h2 h3 h4 h5)
theorem k_iadd  (hx : p.tables.exec = Jvm.exec) (hb : c9.code = cc) (hd : decode cc pc = .ok (.iadd, 1)) : eSok p l e R s m args below meth c9 Q ex lo b D cy maxL mc ms cal md (stI ex sc rt mc ms maxL (.iadd) a1 a2 a3 a4 a5 a6 pc ls st h c z) (pc, ls, st, h, c, z) := by
  refine k_epI fun y t e1 => k_epI fun x t2 e2 => fun hw Ls H locs h1 h2 h3 h4 h5 => ?_
  subst e2
  subst e1
  exact lv_iadd hx hb hd (hw Ls H locs h1 h2 h3 h4 h5)
theorem k_isub  (hx : p.tables.exec = Jvm.exec) (hb : c9.code = cc) (hd : decode cc pc = .ok (.isub, 1)) : eSok p l e R s m args below meth c9 Q ex lo b D cy maxL mc ms cal md (stI ex sc rt mc ms maxL (.isub) a1 a2 a3 a4 a5 a6 pc ls st h c z) (pc, ls, st, h, c, z) := by
  refine k_epI fun y t e1 => k_epI fun x t2 e2 => fun hw Ls H locs h1 h2 h3 h4 h5 => ?_
  subst e2
  subst e1
  exact lv_isub hx hb hd (hw Ls H locs h1 h2 h3 h4 h5)
theorem k_imul  (hx : p.tables.exec = Jvm.exec) (hb : c9.code = cc) (hd : decode cc pc = .ok (.imul, 1)) : eSok p l e R s m args below meth c9 Q ex lo b D cy maxL mc ms cal md (stI ex sc rt mc ms maxL (.imul) a1 a2 a3 a4 a5 a6 pc ls st h c z) (pc, ls, st, h, c, z) := by
  refine k_epI fun y t e1 => k_epI fun x t2 e2 => fun hw Ls H locs h1 h2 h3 h4 h5 => ?_
  subst e2
  subst e1
  exact lv_imul hx hb hd (hw Ls H locs h1 h2 h3 h4 h5)
theorem k_iand  (hx : p.tables.exec = Jvm.exec) (hb : c9.code = cc) (hd : decode cc pc = .ok (.iand, 1)) : eSok p l e R s m args below meth c9 Q ex lo b D cy maxL mc ms cal md (stI ex sc rt mc ms maxL (.iand) a1 a2 a3 a4 a5 a6 pc ls st h c z) (pc, ls, st, h, c, z) := by
  refine k_epI fun y t e1 => k_epI fun x t2 e2 => fun hw Ls H locs h1 h2 h3 h4 h5 => ?_
  subst e2
  subst e1
  exact lv_iand hx hb hd (hw Ls H locs h1 h2 h3 h4 h5)
theorem k_ior  (hx : p.tables.exec = Jvm.exec) (hb : c9.code = cc) (hd : decode cc pc = .ok (.ior, 1)) : eSok p l e R s m args below meth c9 Q ex lo b D cy maxL mc ms cal md (stI ex sc rt mc ms maxL (.ior) a1 a2 a3 a4 a5 a6 pc ls st h c z) (pc, ls, st, h, c, z) := by
  refine k_epI fun y t e1 => k_epI fun x t2 e2 => fun hw Ls H locs h1 h2 h3 h4 h5 => ?_
  subst e2
  subst e1
  exact lv_ior hx hb hd (hw Ls H locs h1 h2 h3 h4 h5)
theorem k_ishl  (hx : p.tables.exec = Jvm.exec) (hb : c9.code = cc) (hd : decode cc pc = .ok (.ishl, 1)) : eSok p l e R s m args below meth c9 Q ex lo b D cy maxL mc ms cal md (stI ex sc rt mc ms maxL (.ishl) a1 a2 a3 a4 a5 a6 pc ls st h c z) (pc, ls, st, h, c, z) := by
  refine k_epI fun y t e1 => k_epI fun x t2 e2 => fun hw Ls H locs h1 h2 h3 h4 h5 => ?_
  subst e2
  subst e1
  exact lv_ishl hx hb hd (hw Ls H locs h1 h2 h3 h4 h5)
theorem k_ishr  (hx : p.tables.exec = Jvm.exec) (hb : c9.code = cc) (hd : decode cc pc = .ok (.ishr, 1)) : eSok p l e R s m args below meth c9 Q ex lo b D cy maxL mc ms cal md (stI ex sc rt mc ms maxL (.ishr) a1 a2 a3 a4 a5 a6 pc ls st h c z) (pc, ls, st, h, c, z) := by
  refine k_epI fun y t e1 => k_epI fun x t2 e2 => fun hw Ls H locs h1 h2 h3 h4 h5 => ?_
  subst e2
  subst e1
  exact lv_ishr hx hb hd (hw Ls H locs h1 h2 h3 h4 h5)
theorem k_iushr  (hx : p.tables.exec = Jvm.exec) (hb : c9.code = cc) (hd : decode cc pc = .ok (.iushr, 1)) : eSok p l e R s m args below meth c9 Q ex lo b D cy maxL mc ms cal md (stI ex sc rt mc ms maxL (.iushr) a1 a2 a3 a4 a5 a6 pc ls st h c z) (pc, ls, st, h, c, z) := by
  refine k_epI fun y t e1 => k_epI fun x t2 e2 => fun hw Ls H locs h1 h2 h3 h4 h5 => ?_
  subst e2
  subst e1
  exact lv_iushr hx hb hd rfl (hw Ls H locs h1 h2 h3 h4 h5)
theorem k_idiv  (hx : p.tables.exec = Jvm.exec) (hb : c9.code = cc) (hd : decode cc pc = .ok (.idiv, 1)) : eSok p l e R s m args below meth c9 Q ex lo b D cy maxL mc ms cal md (stI ex sc rt mc ms maxL (.idiv) a1 a2 a3 a4 a5 a6 pc ls st h c z) (pc, ls, st, h, c, z) := by
  refine k_epI fun y t e1 => k_epI fun x t2 e2 => k_chk fun hne => fun hw Ls H locs h1 h2 h3 h4 h5 => ?_
  subst e2
  subst e1
  exact lv_idiv hx hb hd hne (hw Ls H locs h1 h2 h3 h4 h5)
theorem k_irem  (hx : p.tables.exec = Jvm.exec) (hb : c9.code = cc) (hd : decode cc pc = .ok (.irem, 1)) : eSok p l e R s m args below meth c9 Q ex lo b D cy maxL mc ms cal md (stI ex sc rt mc ms maxL (.irem) a1 a2 a3 a4 a5 a6 pc ls st h c z) (pc, ls, st, h, c, z) := by
  refine k_epI fun y t e1 => k_epI fun x t2 e2 => k_chk fun hne => fun hw Ls H locs h1 h2 h3 h4 h5 => ?_
  subst e2
  subst e1
  exact lv_irem hx hb hd hne (hw Ls H locs h1 h2 h3 h4 h5)
theorem k_ladd  (hx : p.tables.exec = Jvm.exec) (hb : c9.code = cc) (hd : decode cc pc = .ok (.ladd, 1)) : eSok p l e R s m args below meth c9 Q ex lo b D cy maxL mc ms cal md (stI ex sc rt mc ms maxL (.ladd) a1 a2 a3 a4 a5 a6 pc ls st h c z) (pc, ls, st, h, c, z) := by
  refine k_epJ fun y t e1 => k_epJ fun x t2 e2 => fun hw Ls H locs h1 h2 h3 h4 h5 => ?_
  subst e2
  subst e1
  exact lv_ladd hx hb hd (hw Ls H locs h1 h2 h3 h4 h5)
theorem k_lsub  (hx : p.tables.exec = Jvm.exec) (hb : c9.code = cc) (hd : decode cc pc = .ok (.lsub, 1)) : eSok p l e R s m args below meth c9 Q ex lo b D cy maxL mc ms cal md (stI ex sc rt mc ms maxL (.lsub) a1 a2 a3 a4 a5 a6 pc ls st h c z) (pc, ls, st, h, c, z) := by
  refine k_epJ fun y t e1 => k_epJ fun x t2 e2 => fun hw Ls H locs h1 h2 h3 h4 h5 => ?_
  subst e2
  subst e1
  exact lv_lsub hx hb hd (hw Ls H locs h1 h2 h3 h4 h5)
theorem k_lmul  (hx : p.tables.exec = Jvm.exec) (hb : c9.code = cc) (hd : decode cc pc = .ok (.lmul, 1)) : eSok p l e R s m args below meth c9 Q ex lo b D cy maxL mc ms cal md (stI ex sc rt mc ms maxL (.lmul) a1 a2 a3 a4 a5 a6 pc ls st h c z) (pc, ls, st, h, c, z) := by
  refine k_epJ fun y t e1 => k_epJ fun x t2 e2 => fun hw Ls H locs h1 h2 h3 h4 h5 => ?_
  subst e2
  subst e1
  exact lv_lmul hx hb hd (hw Ls H locs h1 h2 h3 h4 h5)
theorem k_land  (hx : p.tables.exec = Jvm.exec) (hb : c9.code = cc) (hd : decode cc pc = .ok (.land, 1)) : eSok p l e R s m args below meth c9 Q ex lo b D cy maxL mc ms cal md (stI ex sc rt mc ms maxL (.land) a1 a2 a3 a4 a5 a6 pc ls st h c z) (pc, ls, st, h, c, z) := by
  refine k_epJ fun y t e1 => k_epJ fun x t2 e2 => fun hw Ls H locs h1 h2 h3 h4 h5 => ?_
  subst e2
  subst e1
  exact lv_land hx hb hd (hw Ls H locs h1 h2 h3 h4 h5)
theorem k_lor  (hx : p.tables.exec = Jvm.exec) (hb : c9.code = cc) (hd : decode cc pc = .ok (.lor, 1)) : eSok p l e R s m args below meth c9 Q ex lo b D cy maxL mc ms cal md (stI ex sc rt mc ms maxL (.lor) a1 a2 a3 a4 a5 a6 pc ls st h c z) (pc, ls, st, h, c, z) := by
  refine k_epJ fun y t e1 => k_epJ fun x t2 e2 => fun hw Ls H locs h1 h2 h3 h4 h5 => ?_
  subst e2
  subst e1
  exact lv_lor hx hb hd (hw Ls H locs h1 h2 h3 h4 h5)
theorem k_lxor  (hx : p.tables.exec = Jvm.exec) (hb : c9.code = cc) (hd : decode cc pc = .ok (.lxor, 1)) : eSok p l e R s m args below meth c9 Q ex lo b D cy maxL mc ms cal md (stI ex sc rt mc ms maxL (.lxor) a1 a2 a3 a4 a5 a6 pc ls st h c z) (pc, ls, st, h, c, z) := by
  refine k_epJ fun y t e1 => k_epJ fun x t2 e2 => fun hw Ls H locs h1 h2 h3 h4 h5 => ?_
  subst e2
  subst e1
  exact lv_lxor hx hb hd (hw Ls H locs h1 h2 h3 h4 h5)
theorem k_lcmp  (hx : p.tables.exec = Jvm.exec) (hb : c9.code = cc) (hd : decode cc pc = .ok (.lcmp, 1)) : eSok p l e R s m args below meth c9 Q ex lo b D cy maxL mc ms cal md (stI ex sc rt mc ms maxL (.lcmp) a1 a2 a3 a4 a5 a6 pc ls st h c z) (pc, ls, st, h, c, z) := by
  refine k_epJ fun y t e1 => k_epJ fun x t2 e2 => fun hw Ls H locs h1 h2 h3 h4 h5 => ?_
  subst e2
  subst e1
  exact W.lcmp hx hb hd (hw Ls H locs h1 h2 h3 h4 h5)
theorem k_lshl  (hx : p.tables.exec = Jvm.exec) (hb : c9.code = cc) (hd : decode cc pc = .ok (.lshl, 1)) : eSok p l e R s m args below meth c9 Q ex lo b D cy maxL mc ms cal md (stI ex sc rt mc ms maxL (.lshl) a1 a2 a3 a4 a5 a6 pc ls st h c z) (pc, ls, st, h, c, z) := by
  refine k_epI fun y t e1 => k_epJ fun x t2 e2 => fun hw Ls H locs h1 h2 h3 h4 h5 => ?_
  subst e2
  subst e1
  exact lv_lshl hx hb hd rfl (hw Ls H locs h1 h2 h3 h4 h5)
theorem k_lshr  (hx : p.tables.exec = Jvm.exec) (hb : c9.code = cc) (hd : decode cc pc = .ok (.lshr, 1)) : eSok p l e R s m args below meth c9 Q ex lo b D cy maxL mc ms cal md (stI ex sc rt mc ms maxL (.lshr) a1 a2 a3 a4 a5 a6 pc ls st h c z) (pc, ls, st, h, c, z) := by
  refine k_epI fun y t e1 => k_epJ fun x t2 e2 => fun hw Ls H locs h1 h2 h3 h4 h5 => ?_
  subst e2
  subst e1
  exact lv_lshr hx hb hd rfl (hw Ls H locs h1 h2 h3 h4 h5)
theorem k_lushr  (hx : p.tables.exec = Jvm.exec) (hb : c9.code = cc) (hd : decode cc pc = .ok (.lushr, 1)) : eSok p l e R s m args below meth c9 Q ex lo b D cy maxL mc ms cal md (stI ex sc rt mc ms maxL (.lushr) a1 a2 a3 a4 a5 a6 pc ls st h c z) (pc, ls, st, h, c, z) := by
  refine k_epI fun y t e1 => k_epJ fun x t2 e2 => fun hw Ls H locs h1 h2 h3 h4 h5 => ?_
  subst e2
  subst e1
  exact lv_lushr hx hb hd rfl (hw Ls H locs h1 h2 h3 h4 h5)
theorem k_i2l  (hx : p.tables.exec = Jvm.exec) (hb : c9.code = cc) (hd : decode cc pc = .ok (.i2l, 1)) : eSok p l e R s m args below meth c9 Q ex lo b D cy maxL mc ms cal md (stI ex sc rt mc ms maxL (.i2l) a1 a2 a3 a4 a5 a6 pc ls st h c z) (pc, ls, st, h, c, z) := by
  refine k_epI fun x t e1 => fun hw Ls H locs h1 h2 h3 h4 h5 => ?_
  subst e1
  exact lv_i2l hx hb hd rfl (hw Ls H locs h1 h2 h3 h4 h5)
theorem k_l2i  (hx : p.tables.exec = Jvm.exec) (hb : c9.code = cc) (hd : decode cc pc = .ok (.l2i, 1)) : eSok p l e R s m args below meth c9 Q ex lo b D cy maxL mc ms cal md (stI ex sc rt mc ms maxL (.l2i) a1 a2 a3 a4 a5 a6 pc ls st h c z) (pc, ls, st, h, c, z) := by
  refine k_epJ fun x t e1 => fun hw Ls H locs h1 h2 h3 h4 h5 => ?_
  subst e1
  exact lv_l2i hx hb hd rfl (hw Ls H locs h1 h2 h3 h4 h5)
theorem k_iinc {n : Nat} {k0 : Int} (hx : p.tables.exec = Jvm.exec) (hb : c9.code = cc) (hd : decode cc pc = .ok (.iinc n k0, 3)) : eSok p l e R s m args below meth c9 Q ex lo b D cy maxL mc ms cal md (stI ex sc rt mc ms maxL (.iinc n k0) a1 a2 a3 a4 a5 a6 pc ls st h c z) (pc, ls, st, h, c, z) := by
  refine k_eldI fun x hg => k_chk fun hn => fun hw Ls H locs h1 h2 h3 h4 h5 => ?_
  obtain ⟨k, hk⟩ := List.getElem?_of_mem (List.mem_map.mpr ⟨(n, .inl x), eget_mem hg, rfl⟩ : (n, Value.int x) ∈ eMap lo b ls)
  exact lv_iinc hx hb hd h1 hk rfl hn (eMap_set lo b n (.inl (x + Int32.ofInt k0)) ls) (fun Ls' h1' => hw Ls' H locs h1' h2 h3 h4 h5)
theorem k_goto {o : Int} (hx : p.tables.exec = Jvm.exec) (hb : c9.code = cc) (hd : decode cc pc = .ok (.goto o, 3)) : eSok p l e R s m args below meth c9 Q ex lo b D cy maxL mc ms cal md (stI ex sc rt mc ms maxL (.goto o) a1 a2 a3 a4 a5 a6 pc ls st h c z) (pc, ls, st, h, c, z) := by
  show eSok p l e R s m args below meth c9 Q ex lo b D cy maxL mc ms cal md (ejmp pc o fun q => .inl (q, ls, st, h, c, z)) _
  refine k_ejmp fun tgt ht => ?_
  exact fun hw Ls H locs h1 h2 h3 h4 h5 => lv_goto hx hb hd ht (hw Ls H locs h1 h2 h3 h4 h5)
theorem k_if_icmp {k0 : Jvm.ClassFile.Cond} {o : Int} (hx : p.tables.exec = Jvm.exec) (hb : c9.code = cc) (hd : decode cc pc = .ok (.if_icmp k0 o, 3)) : eSok p l e R s m args below meth c9 Q ex lo b D cy maxL mc ms cal md (stI ex sc rt mc ms maxL (.if_icmp k0 o) a1 a2 a3 a4 a5 a6 pc ls st h c z) (pc, ls, st, h, c, z) := by
  refine k_epI fun y t e1 => k_epI fun x t2 e2 => k_ejmp fun tgt ht => ?_
  subst e2
  subst e1
  cases k0
  · exact k_if (fun q hw Ls H locs h1 h2 h3 h4 h5 => lv_icmp_eq hx hb hd ht (fun _ => hw Ls H locs h1 h2 h3 h4 h5) (fun q' => absurd q q')) (fun q hw Ls H locs h1 h2 h3 h4 h5 => lv_icmp_eq hx hb hd ht (fun q' => absurd q' q) (fun _ => hw Ls H locs h1 h2 h3 h4 h5))
  · exact k_if (fun q hw Ls H locs h1 h2 h3 h4 h5 => lv_icmp_ne hx hb hd ht (fun _ => hw Ls H locs h1 h2 h3 h4 h5) (fun q' => absurd q (fun z => z q'))) (fun q hw Ls H locs h1 h2 h3 h4 h5 => lv_icmp_ne hx hb hd ht (fun q' => absurd q' q) (fun _ => hw Ls H locs h1 h2 h3 h4 h5))
  · exact k_if (fun q hw Ls H locs h1 h2 h3 h4 h5 => lv_icmp_lt hx hb hd ht (fun _ => hw Ls H locs h1 h2 h3 h4 h5) (fun q' => absurd q q')) (fun q hw Ls H locs h1 h2 h3 h4 h5 => lv_icmp_lt hx hb hd ht (fun q' => absurd q' q) (fun _ => hw Ls H locs h1 h2 h3 h4 h5))
  · exact k_if (fun q hw Ls H locs h1 h2 h3 h4 h5 => lv_icmp_ge hx hb hd ht (fun _ => hw Ls H locs h1 h2 h3 h4 h5) (fun q' => absurd q q')) (fun q hw Ls H locs h1 h2 h3 h4 h5 => lv_icmp_ge hx hb hd ht (fun q' => absurd q' q) (fun _ => hw Ls H locs h1 h2 h3 h4 h5))
  · exact k_if (fun q hw Ls H locs h1 h2 h3 h4 h5 => lv_icmp_gt hx hb hd ht (fun _ => hw Ls H locs h1 h2 h3 h4 h5) (fun q' => absurd q q')) (fun q hw Ls H locs h1 h2 h3 h4 h5 => lv_icmp_gt hx hb hd ht (fun q' => absurd q' q) (fun _ => hw Ls H locs h1 h2 h3 h4 h5))
  · exact k_if (fun q hw Ls H locs h1 h2 h3 h4 h5 => lv_icmp_le hx hb hd ht (fun _ => hw Ls H locs h1 h2 h3 h4 h5) (fun q' => absurd q q')) (fun q hw Ls H locs h1 h2 h3 h4 h5 => lv_icmp_le hx hb hd ht (fun q' => absurd q' q) (fun _ => hw Ls H locs h1 h2 h3 h4 h5))
theorem k_ifCond {k0 : Jvm.ClassFile.Cond} {o : Int} (hx : p.tables.exec = Jvm.exec) (hb : c9.code = cc) (hd : decode cc pc = .ok (.ifCond k0 o, 3)) : eSok p l e R s m args below meth c9 Q ex lo b D cy maxL mc ms cal md (stI ex sc rt mc ms maxL (.ifCond k0 o) a1 a2 a3 a4 a5 a6 pc ls st h c z) (pc, ls, st, h, c, z) := by
  refine k_epI fun x t e1 => k_ejmp fun tgt ht => ?_
  subst e1
  cases k0
  · exact k_if (fun q hw Ls H locs h1 h2 h3 h4 h5 => lv_if_eq hx hb hd ht (fun _ => hw Ls H locs h1 h2 h3 h4 h5) (fun q' => absurd q q')) (fun q hw Ls H locs h1 h2 h3 h4 h5 => lv_if_eq hx hb hd ht (fun q' => absurd q' q) (fun _ => hw Ls H locs h1 h2 h3 h4 h5))
  · exact k_if (fun q hw Ls H locs h1 h2 h3 h4 h5 => lv_if_ne hx hb hd ht (fun _ => hw Ls H locs h1 h2 h3 h4 h5) (fun q' => absurd q (fun z => z q'))) (fun q hw Ls H locs h1 h2 h3 h4 h5 => lv_if_ne hx hb hd ht (fun q' => absurd q' q) (fun _ => hw Ls H locs h1 h2 h3 h4 h5))
  · exact k_if (fun q hw Ls H locs h1 h2 h3 h4 h5 => lv_if_lt hx hb hd ht (fun _ => hw Ls H locs h1 h2 h3 h4 h5) (fun q' => absurd q q')) (fun q hw Ls H locs h1 h2 h3 h4 h5 => lv_if_lt hx hb hd ht (fun q' => absurd q' q) (fun _ => hw Ls H locs h1 h2 h3 h4 h5))
  · exact k_if (fun q hw Ls H locs h1 h2 h3 h4 h5 => lv_if_ge hx hb hd ht (fun _ => hw Ls H locs h1 h2 h3 h4 h5) (fun q' => absurd q q')) (fun q hw Ls H locs h1 h2 h3 h4 h5 => lv_if_ge hx hb hd ht (fun q' => absurd q' q) (fun _ => hw Ls H locs h1 h2 h3 h4 h5))
  · exact k_if (fun q hw Ls H locs h1 h2 h3 h4 h5 => lv_if_gt hx hb hd ht (fun _ => hw Ls H locs h1 h2 h3 h4 h5) (fun q' => absurd q q')) (fun q hw Ls H locs h1 h2 h3 h4 h5 => lv_if_gt hx hb hd ht (fun q' => absurd q' q) (fun _ => hw Ls H locs h1 h2 h3 h4 h5))
  · exact k_if (fun q hw Ls H locs h1 h2 h3 h4 h5 => lv_if_le hx hb hd ht (fun _ => hw Ls H locs h1 h2 h3 h4 h5) (fun q' => absurd q q')) (fun q hw Ls H locs h1 h2 h3 h4 h5 => lv_if_le hx hb hd ht (fun q' => absurd q' q) (fun _ => hw Ls H locs h1 h2 h3 h4 h5))
theorem k_ifnull {o : Int} (hx : p.tables.exec = Jvm.exec) (hb : c9.code = cc) (hd : decode cc pc = .ok (.ifnull o, 3)) : eSok p l e R s m args below meth c9 Q ex lo b D cy maxL mc ms cal md (stI ex sc rt mc ms maxL (.ifnull o) a1 a2 a3 a4 a5 a6 pc ls st h c z) (pc, ls, st, h, c, z) := by
  refine k_epR fun x t e1 => k_ejmp fun tgt ht => ?_
  subst e1
  refine k_if (fun q hw Ls H locs h1 h2 h3 h4 h5 => ?_) (fun q hw Ls H locs h1 h2 h3 h4 h5 => ?_)
  · subst q
    exact lv_ifnullN hx hb hd ht (hw Ls H locs h1 h2 h3 h4 h5)
  · obtain ⟨r, rfl⟩ : ∃ r, x = r + 1 := ⟨x - 1, by omega⟩
    exact lv_ifnull hx hb hd (hw Ls H locs h1 h2 h3 h4 h5)
theorem k_ifnonnull {o : Int} (hx : p.tables.exec = Jvm.exec) (hb : c9.code = cc) (hd : decode cc pc = .ok (.ifnonnull o, 3)) : eSok p l e R s m args below meth c9 Q ex lo b D cy maxL mc ms cal md (stI ex sc rt mc ms maxL (.ifnonnull o) a1 a2 a3 a4 a5 a6 pc ls st h c z) (pc, ls, st, h, c, z) := by
  refine k_epR fun x t e1 => k_ejmp fun tgt ht => ?_
  subst e1
  refine k_if (fun q hw Ls H locs h1 h2 h3 h4 h5 => ?_) (fun q hw Ls H locs h1 h2 h3 h4 h5 => ?_)
  · subst q
    exact lv_ifnonnullN hx hb hd (hw Ls H locs h1 h2 h3 h4 h5)
  · obtain ⟨r, rfl⟩ : ∃ r, x = r + 1 := ⟨x - 1, by omega⟩
    exact lv_ifnonnull hx hb hd ht (hw Ls H locs h1 h2 h3 h4 h5)
theorem k_dup  (hx : p.tables.exec = Jvm.exec) (hb : c9.code = cc) (hd : decode cc pc = .ok (.dup, 1)) : eSok p l e R s m args below meth c9 Q ex lo b D cy maxL mc ms cal md (stI ex sc rt mc ms maxL (.dup) a1 a2 a3 a4 a5 a6 pc ls st h c z) (pc, ls, st, h, c, z) := by
  show eSok p l e R s m args below meth c9 Q ex lo b D cy maxL mc ms cal md (match st with | v :: t => _ | _ => estk) _
  cases st with
  | nil => exact trivial
  | cons v t =>
    refine k_chk fun q => fun hw Ls H locs h1 h2 h3 h4 h5 => ?_
    exact lv_dup hx hb hd (by rw [eVal_cat]; exact q) (hw Ls H locs h1 h2 h3 h4 h5)
theorem k_dup2  (hx : p.tables.exec = Jvm.exec) (hb : c9.code = cc) (hd : decode cc pc = .ok (.dup2, 1)) : eSok p l e R s m args below meth c9 Q ex lo b D cy maxL mc ms cal md (stI ex sc rt mc ms maxL (.dup2) a1 a2 a3 a4 a5 a6 pc ls st h c z) (pc, ls, st, h, c, z) := by
  show eSok p l e R s m args below meth c9 Q ex lo b D cy maxL mc ms cal md (match st with | v :: w :: t => _ | _ => estk) _
  rcases st with _ | ⟨v, _ | ⟨w, t⟩⟩
  · exact trivial
  · exact trivial
  · refine k_chk fun q => fun hw Ls H locs h1 h2 h3 h4 h5 => ?_
    exact lv_dup2_11 hx hb hd (by rw [eVal_cat]; exact q.1) (by rw [eVal_cat]; exact q.2) (hw Ls H locs h1 h2 h3 h4 h5)
theorem k_pop  (hx : p.tables.exec = Jvm.exec) (hb : c9.code = cc) (hd : decode cc pc = .ok (.pop, 1)) : eSok p l e R s m args below meth c9 Q ex lo b D cy maxL mc ms cal md (stI ex sc rt mc ms maxL (.pop) a1 a2 a3 a4 a5 a6 pc ls st h c z) (pc, ls, st, h, c, z) := by
  show eSok p l e R s m args below meth c9 Q ex lo b D cy maxL mc ms cal md (match st with | v :: t => _ | _ => estk) _
  cases st with
  | nil => exact trivial
  | cons v t =>
    refine k_chk fun q => fun hw Ls H locs h1 h2 h3 h4 h5 => ?_
    exact lv_pop hx hb hd (by rw [eVal_cat]; exact q) (hw Ls H locs h1 h2 h3 h4 h5)
theorem k_tableswitch {dflt lo9 hi9 : Int} {offs : Array Int} {len : Nat} (hx : p.tables.exec = Jvm.exec) (hb : c9.code = cc) (hd : decode cc pc = .ok (.tableswitch dflt lo9 hi9 offs, len)) : eSok p l e R s m args below meth c9 Q ex lo b D cy maxL mc ms cal md (stI ex sc rt mc ms maxL (.tableswitch dflt lo9 hi9 offs) a1 a2 a3 a4 a5 a6 pc ls st h c z) (pc, ls, st, h, c, z) := by
  refine k_epI fun x t e1 => k_if (fun q => k_ejmp fun tgt ht hw Ls H locs h1 h2 h3 h4 h5 => ?_) (fun q => ?_)
  · subst e1
    exact lv_tableOut hx hb hd q ht (hw Ls H locs h1 h2 h3 h4 h5)
  · subst e1
    cases ho : offs[(x.toInt - lo9).toNat]? with
    | none => exact trivial
    | some off =>
      refine k_ejmp fun tgt ht hw Ls H locs h1 h2 h3 h4 h5 => ?_
      exact lv_tableIn hx hb hd (fun w => q (Or.inl w)) (fun w => q (Or.inr w)) ho ht (hw Ls H locs h1 h2 h3 h4 h5)
theorem k_lookupswitch {dflt : Int} {ps : Array (Int × Int)} {len : Nat} (hx : p.tables.exec = Jvm.exec) (hb : c9.code = cc) (hd : decode cc pc = .ok (.lookupswitch dflt ps, len)) (hp : (ps.toList.zip (ps.toList.drop 1)).all (fun (a, next) => a.1 < next.1) = true) : eSok p l e R s m args below meth c9 Q ex lo b D cy maxL mc ms cal md (stI ex sc rt mc ms maxL (.lookupswitch dflt ps) a1 a2 a3 a4 a5 a6 pc ls st h c z) (pc, ls, st, h, c, z) := by
  refine k_epI fun x t e1 => k_ejmp fun tgt ht hw Ls H locs h1 h2 h3 h4 h5 => ?_
  subst e1
  exact lv_lookup hx hb hd hp rfl ht (hw Ls H locs h1 h2 h3 h4 h5)
end EST
