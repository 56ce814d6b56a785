/-! ends, calls, throws -/
section EST4
variable {p : Program} {l : Launch} {e : Env} {R : Room} {s : State} {m : MethodId} {args : Array Value} {below : List Frame} {meth : Method} {c9 : Code} {Q : State → Prop}
variable {ex : Bool} {lo b : Nat} {D : va_G} {cy : Nat → ClassId} {maxL mc ms : Nat} {cal : Nat → List eV → eH → eR → Prop} {md : eM}
variable {sc : Option (Nat × (Nat → Int32))} {rt a1 a2 a3 a4 a5 a6 : Nat} {pc : Nat} {ls : eL} {st : List eV} {h : eH} {c z : Nat} {cc : ByteArray} {S : eS} {k : eO}

theorem k_fin1 (hk : ∀ x, st = [.inl x] → eSok p l e R s m args below meth c9 Q ex lo b D cy maxL mc ms cal md (.inr (.inl (.inl (some (.inl x), h)))) S) : eSok p l e R s m args below meth c9 Q ex lo b D cy maxL mc ms cal md (efin 1 st h) S := by
  rcases st with _ | ⟨x | x | x, _ | ⟨y, t⟩⟩ <;> first | exact hk x rfl | exact trivial
theorem k_fin2 (hk : ∀ x, st = [.inr (.inl x)] → eSok p l e R s m args below meth c9 Q ex lo b D cy maxL mc ms cal md (.inr (.inl (.inl (some (.inr (.inl x)), h)))) S) : eSok p l e R s m args below meth c9 Q ex lo b D cy maxL mc ms cal md (efin 2 st h) S := by
  rcases st with _ | ⟨x | x | x, _ | ⟨y, t⟩⟩ <;> first | exact hk x rfl | exact trivial
theorem k_fin3 (hk : ∀ x, st = [.inr (.inr x)] → eSok p l e R s m args below meth c9 Q ex lo b D cy maxL mc ms cal md (.inr (.inl (.inl (some (.inr (.inr x)), h)))) S) : eSok p l e R s m args below meth c9 Q ex lo b D cy maxL mc ms cal md (efin 3 st h) S := by
  rcases st with _ | ⟨x | x | x, _ | ⟨y, t⟩⟩ <;> first | exact hk x rfl | exact trivial
theorem k_fin4 (hk : ∀ x, st = [.inl x] → eB x = true → eSok p l e R s m args below meth c9 Q ex lo b D cy maxL mc ms cal md (.inr (.inl (.inl (some (.inl x), h)))) S) : eSok p l e R s m args below meth c9 Q ex lo b D cy maxL mc ms cal md (efin 4 st h) S := by
  rcases st with _ | ⟨x | x | x, _ | ⟨y, t⟩⟩ <;> first | exact k_chk (hk x rfl) | exact trivial
theorem k_fin0 (hk : st = [] → eSok p l e R s m args below meth c9 Q ex lo b D cy maxL mc ms cal md (.inr (.inl (.inl (none, h)))) S) : eSok p l e R s m args below meth c9 Q ex lo b D cy maxL mc ms cal md (efin 0 st h) S := by
  rcases st with _ | ⟨x | x | x, _ | ⟨y, t⟩⟩ <;> first | exact hk rfl | exact trivial

theorem k_ireturn (hx : p.tables.exec = Jvm.exec) (hb : c9.code = cc) (hlocks : meth.locks = false) (hr : (rt = 1 ∧ meth.sig.returnType = some .int) ∨ (rt = 4 ∧ meth.sig.returnType = some .boolean)) (hd : decode cc pc = .ok (.ireturn, 1)) : eSok p l e R s m args below meth c9 Q ex lo b D cy maxL mc ms cal md (stI ex sc rt mc ms maxL (.ireturn) a1 a2 a3 a4 a5 a6 pc ls st h c z) (pc, ls, st, h, c, z) := by
  show eSok p l e R s m args below meth c9 Q ex lo b D cy maxL mc ms cal md (efin rt st h) (pc, ls, st, h, c, z)
  rcases hr with ⟨rfl, hr⟩ | ⟨rfl, hr⟩
  · refine k_fin1 fun x e1 => ?_
    intro hQ Ls H locs h1 h2 h3 h4 h5
    subst hQ
    refine vx_ret (W.widen h4 h5 ?_)
    subst e1
    exact W.iret hx hb hr (fun t ht hW => ⟨rfl, by rw [ht]; exact h2, h3.F ht⟩) h3.2.2 hd
  · refine k_fin4 fun x e1 q => ?_
    intro hQ Ls H locs h1 h2 h3 h4 h5
    subst hQ
    refine vx_ret (W.widen h4 h5 ?_)
    subst e1
    exact W.zret hx hb hr (eB_n q).1 (fun t ht hW => ⟨rfl, by rw [ht]; exact h2, h3.F ht⟩) h3.2.2 hd
theorem k_lreturn (hx : p.tables.exec = Jvm.exec) (hb : c9.code = cc) (hlocks : meth.locks = false) (hr : rt = 2 ∧ meth.sig.returnType = some .long) (hd : decode cc pc = .ok (.lreturn, 1)) : eSok p l e R s m args below meth c9 Q ex lo b D cy maxL mc ms cal md (stI ex sc rt mc ms maxL (.lreturn) a1 a2 a3 a4 a5 a6 pc ls st h c z) (pc, ls, st, h, c, z) := by
  show eSok p l e R s m args below meth c9 Q ex lo b D cy maxL mc ms cal md (efin rt st h) (pc, ls, st, h, c, z)
  obtain ⟨rfl, hr⟩ := hr
  · refine k_fin2 fun x e1 => ?_
    intro hQ Ls H locs h1 h2 h3 h4 h5
    subst hQ
    refine vx_ret (W.widen h4 h5 ?_)
    subst e1
    exact W.lret hx hb hr (fun t ht hW => ⟨rfl, by rw [ht]; exact h2, h3.F ht⟩) h3.2.2 hd
theorem k_return (hx : p.tables.exec = Jvm.exec) (hb : c9.code = cc) (hlocks : meth.locks = false) (hr : rt = 0 ∧ meth.sig.returnType = none) (hd : decode cc pc = .ok (.return_, 1)) : eSok p l e R s m args below meth c9 Q ex lo b D cy maxL mc ms cal md (stI ex sc rt mc ms maxL (.return_) a1 a2 a3 a4 a5 a6 pc ls st h c z) (pc, ls, st, h, c, z) := by
  show eSok p l e R s m args below meth c9 Q ex lo b D cy maxL mc ms cal md (efin rt st h) (pc, ls, st, h, c, z)
  obtain ⟨rfl, hr⟩ := hr
  · refine k_fin0 fun e1 => ?_
    intro hQ Ls H locs h1 h2 h3 h4 h5
    subst hQ
    refine vx_ret (W.widen h4 h5 ?_)
    subst e1
    exact W.vret hx hb hr (fun t ht hW => ⟨rfl, by rw [ht]; exact h2, h3.F ht⟩) h3.2.2 hd
theorem k_areturn {ty : FieldType} (hx : p.tables.exec = Jvm.exec) (hb : c9.code = cc) (hlocks : meth.locks = false) (hr : rt = 3 ∧ meth.sig.returnType = some ty) (hty : (∃ n, ty = .object n) ∨ ∃ t, ty = .array t) (hd : decode cc pc = .ok (.areturn, 1)) : eSok p l e R s m args below meth c9 Q ex lo b D cy maxL mc ms cal md (stI ex sc rt mc ms maxL (.areturn) a1 a2 a3 a4 a5 a6 pc ls st h c z) (pc, ls, st, h, c, z) := by
  show eSok p l e R s m args below meth c9 Q ex lo b D cy maxL mc ms cal md (efin rt st h) (pc, ls, st, h, c, z)
  obtain ⟨rfl, hr⟩ := hr
  · refine k_fin3 fun x e1 => ?_
    intro hQ Ls H locs h1 h2 h3 h4 h5
    subst hQ
    refine vx_ret (W.widen h4 h5 ?_)
    subst e1
    exact W.aret (v := eVal lo b (.inr (.inr x))) hx hb hr hty (by cases x with | zero => exact Or.inl rfl | succ k => exact Or.inr ⟨_, rfl⟩) (fun t ht hW => ⟨rfl, by rw [ht]; exact h2, h3.F ht⟩) h3.2.2 hd
/-- a handler of the method's own takes the exception -/
def eHan (s : State) (args : Array Value) (c9 : Code) (own : String) (hs : List (Nat × Nat × Nat × Nat)) : Prop :=
  (hs = [] → ∀ x ∈ c9.exceptionTable.toList, False) ∧ ∀ pc E hp, ehand hs pc E = some hp → ∃ (pre : List ExceptionTableEntry) (x : ExceptionTableEntry) (suf : List ExceptionTableEntry) (name : String), c9.exceptionTable.toList = pre ++ x :: suf ∧
    (∀ z ∈ pre, covers z pc = false ∨ (z.catchType ≠ 0 ∧ ∃ nm : String, (Cond.classLink own z.catchType nm).before args s = true ∧ va_Nc (eXN E) nm s)) ∧ covers x pc = true ∧ x.catchType ≠ 0 ∧
    (Cond.classLink own x.catchType name).before args s = true ∧ (Cond.castable (eXN E) name).before args s = true ∧ x.handlerPc = hp
theorem ecatch_inv {md : eM} {hp pc2 : Nat} {ls ls2 : eL} (hc : ecatch md hp ls = some (pc2, ls2)) :
    (∃ (n : Fin 4) (a : Nat × Nat × Nat × Nat × Nat × Nat), elk md.2.2.2.2.2.2 hp = some (.astore_n n, a) ∧ (n : Nat) < md.2.1 ∧ hp + 1 = pc2 ∧ ls.filter (fun q => !(Nat.beq q.1 n) && !(Nat.beq (q.1 + 1) n && Nat.beq (ecat q.2) 2)) = ls2) ∨
    (∃ (n : Nat) (a : Nat × Nat × Nat × Nat × Nat × Nat), elk md.2.2.2.2.2.2 hp = some (.astore n, a) ∧ n < md.2.1 ∧ hp + 2 = pc2 ∧ ls.filter (fun q => !(Nat.beq q.1 n) && !(Nat.beq (q.1 + 1) n && Nat.beq (ecat q.2) 2)) = ls2) := by
  unfold ecatch at hc
  split at hc
  · next n a hel =>
    by_cases hlt : (n : Nat) < md.2.1
    · rw [if_pos hlt] at hc
      injection hc with hc
      injection hc with h1 h2
      exact Or.inl ⟨n, a, hel, hlt, h1, h2⟩
    · rw [if_neg hlt] at hc
      cases hc
  · next n a hel =>
    by_cases hlt : n < md.2.1
    · rw [if_pos hlt] at hc
      injection hc with hc
      injection hc with h1 h2
      exact Or.inr ⟨n, a, hel, hlt, h1, h2⟩
    · rw [if_neg hlt] at hc
      cases hc
  · cases hc
/-- what comes behind a call -/
theorem e_after {own : String} {st0 : List Value} {rst : List eV} {f g : Nat} {a : Array Value} {o : eR} {Ls : Array Slot} {H : Heap} {locs : List Loc} (hx : p.tables.exec = Jvm.exec) (hb : c9.code = cc) (hlocks : meth.locks = false) (hown : s.vm.findClass own = some m.cls) (hhan : eHan s args c9 own md.2.2.2.2.2.1)
    (hdec : ∀ q i a, elk md.2.2.2.2.2.2 q = some (i, a) → ((∃ n, i = .astore_n n) → decode cc q = .ok (i, 1)) ∧ ((∃ n, i = .astore n) → decode cc q = .ok (i, 2))) (hmd : md.2.1 = maxL)
    (hr : vx_Run p l e R s m args below meth c9 H locs c z f g (F0 m pc Ls st0) (rst.map (eVal lo b)) (eQc ex lo b D cy o a) (eXc ex lo b D cy o) (fun q => lo ≤ q))
    (h1 : lv_has Ls maxL (eMap lo b ls)) (h3 : va_S (fun q => lo ≤ q) s.heap H locs) (h4 : c + f ≤ mc) (h5 : z + g ≤ ms)
    (hn : eNext p l e R s m args below meth c9 Q ex lo b D cy maxL mc ms md o pc ls rst (c + f) (z + g)) :
    W p l e R s m args below meth c9 H locs c z Q (F0 m pc Ls st0) := by
  intro T hT X
  rcases hr T hT X with ⟨v, st₀, t, T', L, g0, X', hL, e1, e2, hq, st⟩ | ⟨q, st₀, t, T', L, E, ce, g0, X', hL, e1, e2, hxc, hce, hcv, hcl, st⟩
  · rcases o with ⟨v', h'⟩ | x
    · obtain ⟨ho, hrel, hF⟩ := hq
      obtain ⟨-, -, k3⟩ := vx_keep g0 e1 h3 (fun q _ w => w) (fun q w => w) hL hF
      have hv : v = v'.map (eVal lo b) := by injection ho
      obtain ⟨t2, a1, b1⟩ := hn Ls T'.heap (locs ++ L) h1 (by rw [e1]; exact hrel) k3 h4 h5 T' rfl X'
      refine ⟨t2, st t2 ?_, b1⟩
      rw [hv]
      have he : ((v'.toList ++ rst).map (eVal lo b)) = (v'.map (eVal lo b)).toList ++ rst.map (eVal lo b) := by cases v' <;> rfl
      rw [← he]
      exact a1
    · exact absurd hq id
  · rcases o with x | ⟨E', h'⟩
    · exact absurd hxc id
    · obtain ⟨rfl, hrel, hF⟩ := hxc
      obtain ⟨-, -, k3⟩ := vx_keep g0 e1 h3 (fun q _ w => w) (fun q w => w) hL hF
      have key : vx_W p l e R s m args below meth c9 T'.heap (locs ++ L) (c + f) (z + g) Q (F0 m pc Ls (rst.map (eVal lo b))) q := by
        have hce' : T'.heap[q]? = some ce := by rw [e1]; exact hce
        cases hh : ehand md.2.2.2.2.2.1 pc E' with
        | none =>
          unfold eNext at hn
          dsimp only at hn
          rw [hh] at hn
          obtain ⟨hn1, rfl⟩ := hn
          have hno := hhan.1 hn1
          exact vx_out (fun x hx => (hno x hx).elim) hlocks hce' hcv hcl (fun t9 ht9 _ => ⟨rfl, by rw [ht9, e1]; exact hrel, k3.F ht9⟩) k3.2.2 h4 h5
        | some hp =>
          unfold eNext at hn
          dsimp only at hn
          rw [hh] at hn
          obtain ⟨pre, x, suf, name, s1, s2, s3, s4, s5, s6, s7⟩ := hhan.2 pc E' hp hh
          refine vx_catch hown pre x suf s1 s2 s3 s4 s5 s6 hce' hcv hcl ?_
          rw [s7]
          dsimp only at hn
          cases hcc : ecatch md hp ls with
          | none =>
            rw [hcc] at hn
            exact hn.elim
          | some w =>
            obtain ⟨pc2, ls2⟩ := w
            rw [hcc] at hn
            have he2 : ∀ n, (eMap lo b ls).filter (fun q => !(q.1 == n) && !(q.1 + 1 == n && q.2.category == 2)) = eMap lo b (ls.filter (fun q => !(Nat.beq q.1 n) && !(Nat.beq (q.1 + 1) n && Nat.beq (ecat q.2) 2))) := fun n => (List.cons.inj (eMap_set lo b n (.inl 0) ls)).2
            rcases ecatch_inv hcc with ⟨n, a9, hel, hlt, rfl, rfl⟩ | ⟨n, a9, hel, hlt, rfl, rfl⟩
            · have hdd := (hdec hp _ _ hel).1 ⟨n, rfl⟩
              refine lv_astore_n hx hb hdd rfl h1 (by rw [← hmd]; exact hlt) rfl (fun Ls' h1' => ?_)
              refine hn Ls' T'.heap (locs ++ L) ?_ (by rw [e1]; exact hrel) k3 h4 h5
              refine ⟨h1'.1, h1'.2.1, fun w hw => h1'.2.2 w (List.mem_cons_of_mem _ ?_)⟩
              rw [he2]
              exact hw
            · have hdd := (hdec hp _ _ hel).2 ⟨n, rfl⟩
              refine lv_astore hx hb hdd h1 (by rw [← hmd]; exact hlt) rfl (fun Ls' h1' => ?_)
              refine hn Ls' T'.heap (locs ++ L) ?_ (by rw [e1]; exact hrel) k3 h4 h5
              refine ⟨h1'.1, h1'.2.1, fun w hw => h1'.2.2 w (List.mem_cons_of_mem _ ?_)⟩
              rw [he2]
              exact hw
      obtain ⟨t2, a1, b1⟩ := key T' rfl X'
      exact ⟨t2, st.trans a1, b1⟩
end EST4
