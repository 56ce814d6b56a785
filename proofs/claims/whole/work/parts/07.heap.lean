/-! one step of the evaluator is one step of the machine: fields and arrays -/
theorem eVal_ref {lo b r : Nat} (h : 1 ≤ r) : eVal lo b (.inr (.inr r)) = .ref (eA lo b r) := by
  obtain ⟨k, rfl⟩ : ∃ k, r = k + 1 := ⟨r - 1, by omega⟩
  rfl
theorem eix_in {i : Int32} {n : Nat} (h : eix i n = true) : vp_in i n := by
  unfold eix at h
  rw [Bool.and_eq_true, Bool.not_eq_true', decide_eq_false_iff_not, decide_eq_true_eq] at h
  rintro (q | q)
  · exact h.1 q
  · exact absurd h.2 (Nat.not_lt.mpr q)
theorem eB_n {x : Int32} (h : eB x = true) : narrow .boolean (.int x) = .int x ∧ fits .boolean (.int x) = true ∧ x &&& 1 = x := by
  unfold eB at h
  rw [Bool.or_eq_true, decide_eq_true_eq, decide_eq_true_eq] at h
  rcases h with rfl | rfl
  · exact ⟨by decide, by decide, by decide⟩
  · exact ⟨by decide, by decide, by decide⟩
section EH1
variable {ex : Bool} {lo b : Nat} {D : va_G} {cy : Nat → ClassId} {h h' : eH} {r : Nat} {H H1 : Heap}
theorem eEnt_O {k : Nat} (hk : (h.2.1 r).1 = k) (h1 : k < 11) : eEnt lo b cy h r = .inr (k, (List.range (eNF k)).map (fun j => if eRef k j = true then eVal lo b (.inr (.inr (h.2.2.2.1 r j))) else .int (h.2.2.1 r j))) := by
  unfold eEnt
  rw [hk, if_pos h1]
theorem eEnt_I (hk : (h.2.1 r).1 = 11) : eEnt lo b cy h r = .inl (cy 11, ((h.2.1 r).2, .inl (h.2.2.1 r))) := by
  unfold eEnt
  rw [hk, if_neg (by decide), if_neg (by decide), if_pos (by decide)]
theorem eEnt_Z (hk : (h.2.1 r).1 = 13) : eEnt lo b cy h r = .inl (cy 13, ((h.2.1 r).2, .inl (h.2.2.1 r))) := by
  unfold eEnt
  rw [hk, if_neg (by decide), if_neg (by decide), if_pos (by decide)]
theorem eEnt_J (hk : (h.2.1 r).1 = 12) : eEnt lo b cy h r = .inl (cy 12, ((h.2.1 r).2, .inr (.inl (h.2.2.2.2 r)))) := by
  unfold eEnt
  rw [hk, if_neg (by decide), if_pos (by decide)]
theorem eEnt_R {k : Nat} (hk : (h.2.1 r).1 = k) (h1 : 14 ≤ k) : eEnt lo b cy h r = .inl (cy k, ((h.2.1 r).2, .inr (.inr (.inr (.inr (fun j => eOpt lo b (h.2.2.2.1 r j))))))) := by
  unfold eEnt
  rw [hk, if_neg (by omega), if_neg (by omega), if_neg (by omega)]
/-- the kind alone, and what is at the code, decide what lies there -/
theorem eEnt_eq (h1 : h'.2.1 r = h.2.1 r) (h2 : h'.2.2.1 r = h.2.2.1 r) (h3 : h'.2.2.2.1 r = h.2.2.2.1 r) (h4 : h'.2.2.2.2 r = h.2.2.2.2 r) : eEnt lo b cy h' r = eEnt lo b cy h r := by
  unfold eEnt
  rw [h1, h2, h3, h4]
theorem eRel_set {e : va_E} (hr : eRel ex D cy lo b h H) (h2 : 2 ≤ r) (hn : r < h.1) (h1 : h'.1 = h.1) (hK : h'.2.1 = h.2.1) (he : eEnt lo b cy h' r = e) (ho : ∀ r', r' ≠ r → eEnt lo b cy h' r' = eEnt lo b cy h r')
    (hat : va_at D vwCl (eA lo b r, e) H1) (z : H1.size = H.size) (oq : ∀ q : Nat, q ≠ eA lo b r → H1[q]? = H[q]?) : eRel ex D cy lo b h' H1 := by
  obtain ⟨r1, r2, r3, r4⟩ := hr
  refine ⟨?_, by rw [hK, h1]; exact r2, by rw [h1]; exact r3, fun q => by rw [z, h1]; exact r4 q⟩
  have hg := eWo_get (lo := lo) (b := b) (cy := cy) h2 hn
  rw [← eWo_set h2 hn h1 he ho]
  exact r1.set (eWo_D lo b cy h) hg hat oq
theorem eup_s {α : Type} {f : Nat → Nat → α} {k : Nat} {x : α} : (eup f r k x) r = fun j => if j = k then x else f r j := by
  funext j
  unfold eup
  by_cases q : j = k
  · rw [if_pos ⟨rfl, q⟩, if_pos q]
  · rw [if_neg (fun w => q w.2), if_neg q]
theorem eup_ss {α : Type} {f : Nat → Nat → α} {k : Nat} {x : α} : (eup f r k x) r k = x := by
  unfold eup
  rw [if_pos ⟨rfl, rfl⟩]
theorem eup_sn {α : Type} {f : Nat → Nat → α} {k j : Nat} {x : α} (n : j ≠ k) : (eup f r k x) r j = f r j := by
  unfold eup
  rw [if_neg (fun w => n w.2)]
theorem eup_n {α : Type} {f : Nat → Nat → α} {k r' : Nat} {x : α} (n : r' ≠ r) : (eup f r k x) r' = f r' := by
  funext j
  unfold eup
  rw [if_neg (fun w => n w.1)]
end EH1
/-- a class of the worlds: its number, name, fields, what the words say of them -/
def eCl (Ts : List Cond) (ci : Nat) (C : String) (T : u_T) (N : Nat) : Prop :=
  vwCl[ci]? = some (C, T, N) ∧ N = eNF ci ∧ (∀ w ∈ u_ws C T N, w ∈ Ts) ∧ (∃ ty0 : Nat → FieldType, ∀ k, k < N → parseFieldDescriptor (T k).2.2.1 = some (ty0 k)) ∧ (∀ a, a < N → ∀ b, b < N → a ≠ b → (T a).2.1 ≠ (T b).2.1)
/-- a field's type by its flag: int, reference, boolean -/
def eFt (d ci k : Nat) (desc : String) : Prop :=
  (d = 0 ∧ eRef ci k = false ∧ parseFieldDescriptor desc = some .int) ∨ (d = 1 ∧ eRef ci k = true ∧ ∃ ty, parseFieldDescriptor desc = some ty ∧ ty.isReference = true) ∨ (d = 2 ∧ eRef ci k = false ∧ parseFieldDescriptor desc = some .boolean)
theorem e_refty {ty : FieldType} (h : ty.isReference = true) (lo b r : Nat) : narrow ty (eVal lo b (.inr (.inr r))) = eVal lo b (.inr (.inr r)) ∧ fits ty (eVal lo b (.inr (.inr r))) = true := by
  cases ty <;> first | (cases h; done) | (cases r <;> exact ⟨rfl, rfl⟩)
section EST2
variable {p : Program} {l : Launch} {e : Env} {R : Room} {s : State} {m : MethodId} {args : Array Value} {below : List Frame} {meth : Method} {c9 : Code} {Q : State → Prop}
variable {ex : Bool} {lo b : Nat} {D : va_G} {cy : Nat → ClassId} {maxL mc ms : Nat} {cal : Nat → List eV → eH → eR → Prop} {md : eM}
variable {sc : Option (Nat × (Nat → Int32))} {rt a1 a2 a3 a4 a5 a6 : Nat} {pc : Nat} {ls : eL} {st : List eV} {h : eH} {c z : Nat} {cc : ByteArray} {S : eS} {k : eO}

theorem k_getfield {idx : Nat} {own C : String} {T : u_T} {N : Nat} {Ts : List Cond} (hx : p.tables.exec = Jvm.exec) (hb : c9.code = cc) (hts : ∀ w ∈ Ts, w.before args s = true) (hown : s.vm.findClass own = some m.cls) (hK : va_K D vwCl (eTys cy) s) (hC : eCl Ts a1 C T N) (ha : a1 < 11) (hk : a2 < N)
    (hlink : (Cond.fieldLink own idx (T a2).1 (T a2).2.1 (T a2).2.2.1).before args s = true) (hr : (a3 = 1 ∧ eRef a1 a2 = true) ∨ (a3 = 0 ∧ eRef a1 a2 = false)) (hd : decode cc pc = .ok (.getfield idx, 3)) : eSok p l e R s m args below meth c9 Q ex lo b D cy maxL mc ms cal md (stI ex sc rt mc ms maxL (.getfield idx) a1 a2 a3 a4 a5 a6 pc ls st h c z) (pc, ls, st, h, c, z) := by
  refine k_epR fun r t e1 => k_chk fun q => fun hw Ls H locs h1 h2 h3 h4 h5 => ?_
  subst e1
  obtain ⟨hc, hN, hin, -, -⟩ := hC
  obtain ⟨hr2, hrn⟩ := h2.2.1 r (by rw [q]; omega)
  have hws := eWo_get (lo := lo) (b := b) (cy := cy) hr2 hrn
  rw [eEnt_O q ha] at hws
  have hw := hw Ls H locs h1 h2 h3 h4 h5
  rw [← hN] at hws
  show W p l e R s m args below meth c9 H locs c z Q (F0 m pc Ls (eVal lo b (.inr (.inr r)) :: t.map (eVal lo b)))
  rw [eVal_ref (by omega)]
  have hv : ∀ v : Value, (if eRef a1 a2 = true then eVal lo b (.inr (.inr (h.2.2.2.1 r a2))) else .int (h.2.2.1 r a2)) = v → ((List.range N).map (fun j => if eRef a1 j = true then eVal lo b (.inr (.inr (h.2.2.2.1 r j))) else .int (h.2.2.1 r j)))[a2]? = some v := by
    intro v hv
    rw [List.getElem?_map, List.getElem?_range hk, Option.map_some, hv]
  rcases hr with ⟨rfl, q2⟩ | ⟨rfl, q2⟩
  · exact va_get (ref := (T a2).1) hx hb hts hin hown hK h2.1 (r - 2) hws hc a2 hk hlink (fun _ h9 => h9) (v := eVal lo b (.inr (.inr (h.2.2.2.1 r a2)))) (hv _ (if_pos q2)) hd hw
  · exact va_get (ref := (T a2).1) hx hb hts hin hown hK h2.1 (r - 2) hws hc a2 hk hlink (fun _ h9 => h9) (v := eVal lo b (.inl (h.2.2.1 r a2))) (hv _ (if_neg (by rw [q2]; decide))) hd hw
theorem e_put {idx : Nat} {own C : String} {T : u_T} {N r : Nat} {Ts : List Cond} {v : eV} {t : List eV} {h' : eH} {ty : FieldType} (hx : p.tables.exec = Jvm.exec) (hb : c9.code = cc) (hts : ∀ w ∈ Ts, w.before args s = true) (hown : s.vm.findClass own = some m.cls) (hK : va_K D vwCl (eTys cy) s) (hC : eCl Ts a1 C T N) (ha : a1 < 11) (hk : a2 < N)
    (hlink : (Cond.fieldLink own idx (T a2).1 (T a2).2.1 (T a2).2.2.1).before args s = true) (hfin : (T a2).2.2.2 = false ∨ ((T a2).2.2.2 = true ∧ meth.name = "<init>" ∧ (T a2).1 = own)) (hd : decode cc pc = .ok (.putfield idx, 3))
    (q : (h.2.1 r).1 = a1) (hty : parseFieldDescriptor (T a2).2.2.1 = some ty) (hn : narrow ty (eVal lo b v) = eVal lo b v) (hf : fits ty (eVal lo b v) = true) (h1' : h'.1 = h.1) (hK' : h'.2.1 = h.2.1)
    (he : eEnt lo b cy h' r = .inr (a1, ((List.range (eNF a1)).map (fun j => if eRef a1 j = true then eVal lo b (.inr (.inr (h.2.2.2.1 r j))) else .int (h.2.2.1 r j))).set a2 (eVal lo b v))) (ho : ∀ r', r' ≠ r → eEnt lo b cy h' r' = eEnt lo b cy h r')
    (hw : eWat p l e R s m args below meth c9 Q ex lo b D cy maxL mc ms (pc + 3, ls, t, h', c, z)) : eWat p l e R s m args below meth c9 Q ex lo b D cy maxL mc ms (pc, ls, v :: .inr (.inr r) :: t, h, c, z) := by
  intro Ls H locs h1 h2 h3 h4 h5
  obtain ⟨hc, hN, hin, ⟨ty0, hty0⟩, hnm⟩ := hC
  obtain ⟨hr2, hrn⟩ := h2.2.1 r (by rw [q]; omega)
  have hws := eWo_get (lo := lo) (b := b) (cy := cy) hr2 hrn
  rw [eEnt_O q ha] at hws
  have hap := va_apart (own := own) hts hin ty0 hty0 hnm hK hc
  have hP := h2.1
  obtain ⟨r9, g1, cell, q1, q2, q3, q4⟩ := hP (r - 2) _ hws
  have hr9 : r9 = (C, T, N) := Option.some.inj (g1.symm.trans hc)
  subst hr9
  obtain ⟨hS, hfc, kC, hkC, hkind⟩ := hK.1 a1 _ hc
  obtain ⟨cf, kf, fi, f, hi, hsl⟩ := hS a2 hk
  have hlay := hts _ (hin _ (u_in_lay hk))
  have hst := (u_facts hfc hkC (u_lays hts hin hk) hi).1
  show W p l e R s m args below meth c9 H locs c z Q (F0 m pc Ls (eVal lo b v :: eVal lo b (.inr (.inr r)) :: t.map (eVal lo b)))
  rw [eVal_ref (by omega)]
  have fin : ∀ H' : Heap, H'[eA lo b r]? = some (cell.setSlot f.slot (eVal lo b v)) → H'.size = H.size → (∀ x, x ≠ eA lo b r → H'[x]? = H[x]?) → W p l e R s m args below meth c9 H' (locs ++ [⟨eA lo b r, f.slot⟩]) c z Q (F0 m (pc + 3) Ls (t.map (eVal lo b))) := by
    intro H' e1 e2 e3
    have hlen : a2 < ((List.range (eNF a1)).map (fun j => if eRef a1 j = true then eVal lo b (.inr (.inr (h.2.2.2.1 r j))) else .int (h.2.2.1 r j))).length := by
      rw [List.length_map, List.length_range, ← hN]; exact hk
    refine hw Ls H' (locs ++ [⟨eA lo b r, f.slot⟩]) h1 (eRel_set h2 hr2 hrn h1' hK' he ho ?_ e2 e3) (h3.put e2 e3 ?_) h4 h5
    · rw [hsl] at e1
      exact ⟨_, hc, t_OB.to (V := updV (vp_V _) a2 (eVal lo b v)) ⟨_, e1, q2, q3, t_set q4 hap hk _⟩ (fun j _ => vp_updV_set hlen _ j)⟩
    · obtain ⟨k9, rfl⟩ : ∃ k9, r = k9 + 2 := ⟨r - 2, by omega⟩
      exact Nat.le_add_right lo k9
  rcases hfin with hfin | ⟨hfin, hin2, hdecl⟩
  · unfold u_lay at hlay
    rw [if_neg (by rw [hfin]; decide)] at hlay
    have h6 := u_store hfc hkC hkind hlay hi hty hn hf
    exact W.putK hx hb (f := f) ⟨hown, hlink, ⟨_, _, _, hi⟩, hst⟩ (by rw [q2]; exact h6) q1 q3 (by rw [hsl]; exact k2_hasslot (q4 a2 hk)) rfl rfl hd fin
  · unfold u_lay at hlay
    rw [if_pos hfin] at hlay
    have hcf : m.cls = cf := by
      obtain ⟨_, _, c', _, _, _, -, -, hf', -, -, -, hown2, -⟩ := Cond.laysFinal_spec hlay
      have e1 : c' = cf := by have := hi.symm.trans hf'; simp at this; exact this.1.symm
      rw [hdecl] at hown2
      rw [← e1]; exact Option.some.inj (hown.symm.trans hown2)
    have h6 := u_fits hfc hkC hkind (Or.inr hlay) hi hty hn hf
    exact W.putFinK hx hb hown hlink hi hst hcf hin2 (by rw [q2]; exact h6) q1 q3 (by rw [hsl]; exact k2_hasslot (q4 a2 hk)) rfl rfl hd fin
theorem k_putfield {idx : Nat} {own C : String} {T : u_T} {N : Nat} {Ts : List Cond} (hx : p.tables.exec = Jvm.exec) (hb : c9.code = cc) (hts : ∀ w ∈ Ts, w.before args s = true) (hown : s.vm.findClass own = some m.cls) (hK : va_K D vwCl (eTys cy) s) (hC : eCl Ts a1 C T N) (ha : a1 < 11) (hk : a2 < N)
    (hlink : (Cond.fieldLink own idx (T a2).1 (T a2).2.1 (T a2).2.2.1).before args s = true) (hfin : (T a2).2.2.2 = false ∨ ((T a2).2.2.2 = true ∧ meth.name = "<init>" ∧ (T a2).1 = own)) (hft : eFt a3 a1 a2 (T a2).2.2.1) (hd : decode cc pc = .ok (.putfield idx, 3)) : eSok p l e R s m args below meth c9 Q ex lo b D cy maxL mc ms cal md (stI ex sc rt mc ms maxL (.putfield idx) a1 a2 a3 a4 a5 a6 pc ls st h c z) (pc, ls, st, h, c, z) := by
  have keyI : ∀ (r : Nat) (x : Int32), eRef a1 a2 = false → ((List.range (eNF a1)).map (fun j => if eRef a1 j = true then eVal lo b (.inr (.inr (h.2.2.2.1 r j))) else .int (h.2.2.1 r j))).set a2 (.int x) = (List.range (eNF a1)).map (fun j => if eRef a1 j = true then eVal lo b (.inr (.inr (h.2.2.2.1 r j))) else .int ((eup h.2.2.1 r a2 x) r j)) := by
    intro r x hf
    apply List.ext_getElem?
    intro i
    by_cases hi : i = a2
    · subst hi
      rw [List.getElem?_set_self (by rw [List.length_map, List.length_range, ← hC.2.1]; exact hk), List.getElem?_map, List.getElem?_range (by rw [← hC.2.1]; exact hk), Option.map_some, if_neg (by rw [hf]; decide), eup_ss]
    · rw [List.getElem?_set_ne (Ne.symm hi), List.getElem?_map, List.getElem?_map]
      by_cases hl : i < eNF a1
      · rw [List.getElem?_range hl, Option.map_some, Option.map_some, eup_sn hi]
      · rw [List.getElem?_eq_none (by rw [List.length_range]; omega), Option.map_none, Option.map_none]
  have keyR : ∀ (r x : Nat), eRef a1 a2 = true → ((List.range (eNF a1)).map (fun j => if eRef a1 j = true then eVal lo b (.inr (.inr (h.2.2.2.1 r j))) else .int (h.2.2.1 r j))).set a2 (eVal lo b (.inr (.inr x))) = (List.range (eNF a1)).map (fun j => if eRef a1 j = true then eVal lo b (.inr (.inr ((eup h.2.2.2.1 r a2 x) r j))) else .int (h.2.2.1 r j)) := by
    intro r x hf
    apply List.ext_getElem?
    intro i
    by_cases hi : i = a2
    · subst hi
      rw [List.getElem?_set_self (by rw [List.length_map, List.length_range, ← hC.2.1]; exact hk), List.getElem?_map, List.getElem?_range (by rw [← hC.2.1]; exact hk), Option.map_some, if_pos hf, eup_ss]
    · rw [List.getElem?_set_ne (Ne.symm hi), List.getElem?_map, List.getElem?_map]
      by_cases hl : i < eNF a1
      · rw [List.getElem?_range hl, Option.map_some, Option.map_some, eup_sn hi]
      · rw [List.getElem?_eq_none (by rw [List.length_range]; omega), Option.map_none, Option.map_none]
  rcases hft with ⟨rfl, q2, q3⟩ | ⟨rfl, q2, ty, q3, q4⟩ | ⟨rfl, q2, q3⟩
  · refine k_epI fun x t e1 => k_epR fun r t2 e2 => k_chk fun q => ?_
    subst e2
    subst e1
    intro hw
    have he : eEnt lo b cy ((h.1, h.2.1, eup h.2.2.1 r a2 x, h.2.2.2.1, h.2.2.2.2) : eH) r = .inr (a1, ((List.range (eNF a1)).map (fun j => if eRef a1 j = true then eVal lo b (.inr (.inr (h.2.2.2.1 r j))) else .int (h.2.2.1 r j))).set a2 (.int x)) := by
      rw [eEnt_O (h := ((h.1, h.2.1, eup h.2.2.1 r a2 x, h.2.2.2.1, h.2.2.2.2) : eH)) q ha, keyI r x q2]
    have ho : ∀ r', r' ≠ r → eEnt lo b cy ((h.1, h.2.1, eup h.2.2.1 r a2 x, h.2.2.2.1, h.2.2.2.2) : eH) r' = eEnt lo b cy h r' := fun r' n => eEnt_eq rfl (eup_n n) rfl rfl
    exact e_put (h' := (h.1, h.2.1, eup h.2.2.1 r a2 x, h.2.2.2.1, h.2.2.2.2)) (v := .inl x) (ty := .int) hx hb hts hown hK hC ha hk hlink hfin hd q q3 rfl rfl rfl rfl he ho hw
  · refine k_epR fun x t e1 => k_epR fun r t2 e2 => k_chk fun q => ?_
    subst e2
    subst e1
    intro hw
    have he : eEnt lo b cy ((h.1, h.2.1, h.2.2.1, eup h.2.2.2.1 r a2 x, h.2.2.2.2) : eH) r = .inr (a1, ((List.range (eNF a1)).map (fun j => if eRef a1 j = true then eVal lo b (.inr (.inr (h.2.2.2.1 r j))) else .int (h.2.2.1 r j))).set a2 (eVal lo b (.inr (.inr x)))) := by
      rw [eEnt_O (h := ((h.1, h.2.1, h.2.2.1, eup h.2.2.2.1 r a2 x, h.2.2.2.2) : eH)) q ha, keyR r x q2]
    have ho : ∀ r', r' ≠ r → eEnt lo b cy ((h.1, h.2.1, h.2.2.1, eup h.2.2.2.1 r a2 x, h.2.2.2.2) : eH) r' = eEnt lo b cy h r' := fun r' n => eEnt_eq rfl rfl (eup_n n) rfl
    exact e_put (h' := (h.1, h.2.1, h.2.2.1, eup h.2.2.2.1 r a2 x, h.2.2.2.2)) (v := .inr (.inr x)) hx hb hts hown hK hC ha hk hlink hfin hd q q3 (e_refty q4 lo b x).1 (e_refty q4 lo b x).2 rfl rfl he ho hw
  · refine k_epI fun x t e1 => k_epR fun r t2 e2 => k_chk fun q => ?_
    subst e2
    subst e1
    intro hw
    have he : eEnt lo b cy ((h.1, h.2.1, eup h.2.2.1 r a2 x, h.2.2.2.1, h.2.2.2.2) : eH) r = .inr (a1, ((List.range (eNF a1)).map (fun j => if eRef a1 j = true then eVal lo b (.inr (.inr (h.2.2.2.1 r j))) else .int (h.2.2.1 r j))).set a2 (.int x)) := by
      rw [eEnt_O (h := ((h.1, h.2.1, eup h.2.2.1 r a2 x, h.2.2.2.1, h.2.2.2.2) : eH)) q.1 ha, keyI r x q2]
    have ho : ∀ r', r' ≠ r → eEnt lo b cy ((h.1, h.2.1, eup h.2.2.1 r a2 x, h.2.2.2.1, h.2.2.2.2) : eH) r' = eEnt lo b cy h r' := fun r' n => eEnt_eq rfl (eup_n n) rfl rfl
    exact e_put (h' := (h.1, h.2.1, eup h.2.2.1 r a2 x, h.2.2.2.1, h.2.2.2.2)) (v := .inl x) (ty := .boolean) hx hb hts hown hK hC ha hk hlink hfin hd q.1 q3 (eB_n q.2).1 (eB_n q.2).2.1 rfl rfl he ho hw
theorem k_iaload (hx : p.tables.exec = Jvm.exec) (hb : c9.code = cc) (hK : va_K D vwCl (eTys cy) s) (hsc : ∀ X, sc = some X → va_X b X.1 X.2 s s.heap ∧ b < s.heap.size ∧ b < lo) (hd : decode cc pc = .ok (.iaload, 1)) : eSok p l e R s m args below meth c9 Q ex lo b D cy maxL mc ms cal md (stI ex sc rt mc ms maxL (.iaload) a1 a2 a3 a4 a5 a6 pc ls st h c z) (pc, ls, st, h, c, z) := by
  refine k_epI fun i t e1 => k_epR fun r t2 e2 => ?_
  subst e2
  subst e1
  have gen : eSok p l e R s m args below meth c9 Q ex lo b D cy maxL mc ms cal md (if (h.2.1 r).1 = 11 ∧ eix i (h.2.1 r).2 = true then .inl (pc + 1, ls, (.inl (h.2.2.1 r i.toNatClampNeg)) :: t2, h, c, z) else estk) (pc, ls, .inl i :: .inr (.inr r) :: t2, h, c, z) := by
    refine k_chk fun q => fun hw Ls H locs h1 h2 h3 h4 h5 => ?_
    obtain ⟨hr2, hrn⟩ := h2.2.1 r (by rw [q.1]; decide)
    have hws := eWo_get (lo := lo) (b := b) (cy := cy) hr2 hrn
    rw [eEnt_I q.1] at hws
    show W p l e R s m args below meth c9 H locs c z Q (F0 m pc Ls (.int i :: eVal lo b (.inr (.inr r)) :: t2.map (eVal lo b)))
    rw [eVal_ref (by omega)]
    exact va_iald hx hb hK h2.1 (r - 2) 0 hws rfl (eix_in q.2) hd (hw Ls H locs h1 h2 h3 h4 h5)
  split
  · rename_i X
    refine k_chk fun q => fun hw Ls H locs h1 h2 h3 h4 h5 => ?_
    obtain ⟨hX, hbl, hbo⟩ := hsc X rfl
    exact va_sld hx hb hX hbl (Nat.not_le.mpr hbo) h3 (eix_in q) hd (hw Ls H locs h1 h2 h3 h4 h5)
  · exact gen
theorem k_baload (hx : p.tables.exec = Jvm.exec) (hb : c9.code = cc) (hK : va_K D vwCl (eTys cy) s) (hd : decode cc pc = .ok (.baload, 1)) : eSok p l e R s m args below meth c9 Q ex lo b D cy maxL mc ms cal md (stI ex sc rt mc ms maxL (.baload) a1 a2 a3 a4 a5 a6 pc ls st h c z) (pc, ls, st, h, c, z) := by
  refine k_epI fun i t e1 => k_epR fun r t2 e2 => k_chk fun q => fun hw Ls H locs h1 h2 h3 h4 h5 => ?_
  subst e2
  subst e1
  obtain ⟨hr2, hrn⟩ := h2.2.1 r (by rw [q.1]; decide)
  have hws := eWo_get (lo := lo) (b := b) (cy := cy) hr2 hrn
  rw [eEnt_Z q.1] at hws
  show W p l e R s m args below meth c9 H locs c z Q (F0 m pc Ls (.int i :: eVal lo b (.inr (.inr r)) :: t2.map (eVal lo b)))
  rw [eVal_ref (by omega)]
  exact va_zald hx hb hK h2.1 (r - 2) 2 hws rfl (eix_in q.2) hd (hw Ls H locs h1 h2 h3 h4 h5)
theorem k_laload (hx : p.tables.exec = Jvm.exec) (hb : c9.code = cc) (hK : va_K D vwCl (eTys cy) s) (hd : decode cc pc = .ok (.laload, 1)) : eSok p l e R s m args below meth c9 Q ex lo b D cy maxL mc ms cal md (stI ex sc rt mc ms maxL (.laload) a1 a2 a3 a4 a5 a6 pc ls st h c z) (pc, ls, st, h, c, z) := by
  refine k_epI fun i t e1 => k_epR fun r t2 e2 => k_chk fun q => fun hw Ls H locs h1 h2 h3 h4 h5 => ?_
  subst e2
  subst e1
  obtain ⟨hr2, hrn⟩ := h2.2.1 r (by rw [q.1]; decide)
  have hws := eWo_get (lo := lo) (b := b) (cy := cy) hr2 hrn
  rw [eEnt_J q.1] at hws
  show W p l e R s m args below meth c9 H locs c z Q (F0 m pc Ls (.int i :: eVal lo b (.inr (.inr r)) :: t2.map (eVal lo b)))
  rw [eVal_ref (by omega)]
  exact va_lald hx hb hK h2.1 (r - 2) 1 hws rfl (eix_in q.2) hd (hw Ls H locs h1 h2 h3 h4 h5)
theorem e_ty {k : Nat} (hk : 11 ≤ k) (hk2 : k < 18) : ∃ ty, (eTys cy)[k - 11]? = some (cy k, ty) ∧ (14 ≤ k → ty.isReference = true) := by
  have : k = 11 ∨ k = 12 ∨ k = 13 ∨ k = 14 ∨ k = 15 ∨ k = 16 ∨ k = 17 := by omega
  rcases this with rfl | rfl | rfl | rfl | rfl | rfl | rfl <;> exact ⟨_, rfl, fun q => by first | rfl | omega⟩
theorem k_aaload (hx : p.tables.exec = Jvm.exec) (hb : c9.code = cc) (hK : va_K D vwCl (eTys cy) s) (ha : 14 ≤ a1) (ha2 : a1 < 18) (hd : decode cc pc = .ok (.aaload, 1)) : eSok p l e R s m args below meth c9 Q ex lo b D cy maxL mc ms cal md (stI ex sc rt mc ms maxL (.aaload) a1 a2 a3 a4 a5 a6 pc ls st h c z) (pc, ls, st, h, c, z) := by
  refine k_epI fun i t e1 => k_epR fun r t2 e2 => k_chk fun q => fun hw Ls H locs h1 h2 h3 h4 h5 => ?_
  subst e2
  subst e1
  obtain ⟨hr2, hrn⟩ := h2.2.1 r (by rw [q.1]; omega)
  have hws := eWo_get (lo := lo) (b := b) (cy := cy) hr2 hrn
  rw [eEnt_R q.1 ha] at hws
  obtain ⟨ty, ht, hrf⟩ := e_ty (cy := cy) (show 11 ≤ a1 by omega) ha2
  show W p l e R s m args below meth c9 H locs c z Q (F0 m pc Ls (.int i :: eVal lo b (.inr (.inr r)) :: t2.map (eVal lo b)))
  rw [eVal_ref (by omega)]
  have hin := eix_in q.2
  have hlt : i.toNatClampNeg < (h.2.1 r).2 := Nat.not_le.mp fun q => hin (Or.inr q)
  exact W.aald (v := va_rf (eOpt lo b (h.2.2.2.1 r i.toNatClampNeg))) (ty := ty) hx hb (h2.1 (r - 2) _ hws) ((hK.2 (a1 - 11) _ ht).1 _ (fun j => va_rf (eOpt lo b (h.2.2.2.1 r j)))) (hrf ha) (fun q => by cases q) (by show ¬ (i < 0 ∨ (arrV _ _ _).slots.size ≤ _); rw [arrV_size]; exact hin) (by show (arrV _ _ _).slots[_]? = _; rw [arrV_read _ _ hlt]) rfl rfl hd (hw Ls H locs h1 h2 h3 h4 h5)
theorem k_arraylength (hx : p.tables.exec = Jvm.exec) (hb : c9.code = cc) (hK : va_K D vwCl (eTys cy) s) (hsc : ∀ X, sc = some X → va_X b X.1 X.2 s s.heap ∧ b < s.heap.size ∧ b < lo) (hd : decode cc pc = .ok (.arraylength, 1)) : eSok p l e R s m args below meth c9 Q ex lo b D cy maxL mc ms cal md (stI ex sc rt mc ms maxL (.arraylength) a1 a2 a3 a4 a5 a6 pc ls st h c z) (pc, ls, st, h, c, z) := by
  refine k_epR fun r t e1 => ?_
  subst e1
  have gen : eSok p l e R s m args below meth c9 Q ex lo b D cy maxL mc ms cal md (if 11 ≤ (h.2.1 r).1 ∧ (h.2.1 r).1 < 18 then .inl (pc + 1, ls, (.inl (Int32.ofNat (h.2.1 r).2)) :: t, h, c, z) else estk) (pc, ls, .inr (.inr r) :: t, h, c, z) := by
    refine k_chk fun q => fun hw Ls H locs h1 h2 h3 h4 h5 => ?_
    obtain ⟨hr2, hrn⟩ := h2.2.1 r q.2
    have hws := eWo_get (lo := lo) (b := b) (cy := cy) hr2 hrn
    obtain ⟨ty, ht, -⟩ := e_ty (cy := cy) q.1 q.2
    show W p l e R s m args below meth c9 H locs c z Q (F0 m pc Ls (eVal lo b (.inr (.inr r)) :: t.map (eVal lo b)))
    rw [eVal_ref (by omega)]
    have he : ∃ x : vp_A, eEnt lo b cy h r = .inl (cy (h.2.1 r).1, x) ∧ x.1 = (h.2.1 r).2 := by
      unfold eEnt
      rw [if_neg (by omega)]
      exact ⟨_, rfl, rfl⟩
    obtain ⟨x, he, hx1⟩ := he
    rw [he] at hws
    exact va_alen hx hb hK h2.1 (r - 2) ((h.2.1 r).1 - 11) hws ht (by rw [hx1]) hd (hw Ls H locs h1 h2 h3 h4 h5)
  split
  · rename_i X
    intro hw Ls H locs h1 h2 h3 h4 h5
    obtain ⟨hX, hbl, hbo⟩ := hsc X rfl
    exact va_slen hx hb hX hbl (Nat.not_le.mpr hbo) h3 hd (hw Ls H locs h1 h2 h3 h4 h5)
  · exact gen
theorem k_iastore (hx : p.tables.exec = Jvm.exec) (hb : c9.code = cc) (hK : va_K D vwCl (eTys cy) s) (hd : decode cc pc = .ok (.iastore, 1)) : eSok p l e R s m args below meth c9 Q ex lo b D cy maxL mc ms cal md (stI ex sc rt mc ms maxL (.iastore) a1 a2 a3 a4 a5 a6 pc ls st h c z) (pc, ls, st, h, c, z) := by
  refine k_epI fun x t e0 => k_epI fun i t1 e1 => k_epR fun r t2 e2 => k_chk fun q => fun hw Ls H locs h1 h2 h3 h4 h5 => ?_
  subst e2
  subst e1
  subst e0
  obtain ⟨hr2, hrn⟩ := h2.2.1 r (by rw [q.1]; decide)
  have hws := eWo_get (lo := lo) (b := b) (cy := cy) hr2 hrn
  rw [eEnt_I q.1] at hws
  have hin := eix_in q.2
  show W p l e R s m args below meth c9 H locs c z Q (F0 m pc Ls (.int x :: .int i :: eVal lo b (.inr (.inr r)) :: t2.map (eVal lo b)))
  rw [eVal_ref (by omega)]
  refine W.iast hx hb (h2.1 (r - 2) _ hws) ((hK.2 0 _ rfl).1 _ (fun j => .int (h.2.2.1 r j))) (fun q => by cases q) (by show ¬ (i < 0 ∨ (arrV _ _ _).slots.size ≤ _); rw [arrV_size]; exact hin) rfl rfl hd fun H1 e9 z9 oq => ?_
  refine hw Ls H1 _ h1 (eRel_set h2 hr2 hrn (h' := (h.1, h.2.1, eup h.2.2.1 r i.toNatClampNeg x, h.2.2.2.1, h.2.2.2.2)) rfl rfl (eEnt_I (h := (h.1, h.2.1, eup h.2.2.1 r i.toNatClampNeg x, h.2.2.2.1, h.2.2.2.2)) q.1) (fun r' n => eEnt_eq rfl (eup_n n) rfl rfl) ?_ z9 oq) (h3.put z9 oq ?_) h4 h5
  · show H1[eA lo b r]? = some (vp_cell _ _)
    rw [e9]
    rw [vp_cell_i, vp_cell_i, arrV_store]
    congr 2
    funext j
    by_cases hj : j = i.toNatClampNeg
    · subst hj
      show updV _ _ _ _ = .int (eup _ r _ x r _)
      rw [eup_ss]
      simp [updV]
    · show updV _ _ _ _ = .int (eup _ r _ x r _)
      rw [eup_sn hj]
      simp [updV, hj]
  · obtain ⟨k9, rfl⟩ : ∃ k9, r = k9 + 2 := ⟨r - 2, by omega⟩
    exact Nat.le_add_right lo k9
theorem k_bastore (hx : p.tables.exec = Jvm.exec) (hb : c9.code = cc) (hK : va_K D vwCl (eTys cy) s) (hd : decode cc pc = .ok (.bastore, 1)) : eSok p l e R s m args below meth c9 Q ex lo b D cy maxL mc ms cal md (stI ex sc rt mc ms maxL (.bastore) a1 a2 a3 a4 a5 a6 pc ls st h c z) (pc, ls, st, h, c, z) := by
  refine k_epI fun x t e0 => k_epI fun i t1 e1 => k_epR fun r t2 e2 => k_chk fun q => fun hw Ls H locs h1 h2 h3 h4 h5 => ?_
  subst e2
  subst e1
  subst e0
  obtain ⟨hr2, hrn⟩ := h2.2.1 r (by rw [q.1]; decide)
  have hws := eWo_get (lo := lo) (b := b) (cy := cy) hr2 hrn
  rw [eEnt_Z q.1] at hws
  have hin := eix_in q.2.1
  show W p l e R s m args below meth c9 H locs c z Q (F0 m pc Ls (.int x :: .int i :: eVal lo b (.inr (.inr r)) :: t2.map (eVal lo b)))
  rw [eVal_ref (by omega)]
  refine W.zast hx hb (h2.1 (r - 2) _ hws) ((hK.2 2 _ rfl).1 _ (fun j => .int (h.2.2.1 r j))) (fun q => by cases q) (by show ¬ (i < 0 ∨ (arrV _ _ _).slots.size ≤ _); rw [arrV_size]; exact hin) rfl rfl hd fun H1 e9 z9 oq => ?_
  refine hw Ls H1 _ h1 (eRel_set h2 hr2 hrn (h' := (h.1, h.2.1, eup h.2.2.1 r i.toNatClampNeg x, h.2.2.2.1, h.2.2.2.2)) rfl rfl (eEnt_Z (h := (h.1, h.2.1, eup h.2.2.1 r i.toNatClampNeg x, h.2.2.2.1, h.2.2.2.2)) q.1) (fun r' n => eEnt_eq rfl (eup_n n) rfl rfl) ?_ z9 oq) (h3.put z9 oq ?_) h4 h5
  · show H1[eA lo b r]? = some (vp_cell _ _)
    rw [e9]
    rw [vp_cell_i, vp_cell_i, arrV_store]
    congr 2
    funext j
    by_cases hj : j = i.toNatClampNeg
    · subst hj
      show updV _ _ _ _ = .int (eup _ r _ x r _)
      rw [eup_ss]
      simp [updV, narrow, (eB_n q.2.2).2.2]
    · show updV _ _ _ _ = .int (eup _ r _ x r _)
      rw [eup_sn hj]
      simp [updV, hj]
  · obtain ⟨k9, rfl⟩ : ∃ k9, r = k9 + 2 := ⟨r - 2, by omega⟩
    exact Nat.le_add_right lo k9
theorem k_lastore (hx : p.tables.exec = Jvm.exec) (hb : c9.code = cc) (hK : va_K D vwCl (eTys cy) s) (hd : decode cc pc = .ok (.lastore, 1)) : eSok p l e R s m args below meth c9 Q ex lo b D cy maxL mc ms cal md (stI ex sc rt mc ms maxL (.lastore) a1 a2 a3 a4 a5 a6 pc ls st h c z) (pc, ls, st, h, c, z) := by
  refine k_epJ fun x t e0 => k_epI fun i t1 e1 => k_epR fun r t2 e2 => k_chk fun q => fun hw Ls H locs h1 h2 h3 h4 h5 => ?_
  subst e2
  subst e1
  subst e0
  obtain ⟨hr2, hrn⟩ := h2.2.1 r (by rw [q.1]; decide)
  have hws := eWo_get (lo := lo) (b := b) (cy := cy) hr2 hrn
  rw [eEnt_J q.1] at hws
  have hin := eix_in q.2
  show W p l e R s m args below meth c9 H locs c z Q (F0 m pc Ls (.long x :: .int i :: eVal lo b (.inr (.inr r)) :: t2.map (eVal lo b)))
  rw [eVal_ref (by omega)]
  refine W.last hx hb (h2.1 (r - 2) _ hws) ((hK.2 1 _ rfl).1 _ (fun j => .long (h.2.2.2.2 r j))) (fun q => by cases q) (by show ¬ (i < 0 ∨ (arrV _ _ _).slots.size ≤ _); rw [arrV_size]; exact hin) rfl rfl hd fun H1 e9 z9 oq => ?_
  refine hw Ls H1 _ h1 (eRel_set h2 hr2 hrn (h' := (h.1, h.2.1, h.2.2.1, h.2.2.2.1, eup h.2.2.2.2 r i.toNatClampNeg x)) rfl rfl (eEnt_J (h := (h.1, h.2.1, h.2.2.1, h.2.2.2.1, eup h.2.2.2.2 r i.toNatClampNeg x)) q.1) (fun r' n => eEnt_eq rfl rfl rfl (eup_n n)) ?_ z9 oq) (h3.put z9 oq ?_) h4 h5
  · show H1[eA lo b r]? = some (vp_cell _ _)
    rw [e9]
    rw [vp_cell_l, vp_cell_l, arrV_store]
    congr 2
    funext j
    by_cases hj : j = i.toNatClampNeg
    · subst hj
      show updV _ _ _ _ = .long (eup _ r _ x r _)
      rw [eup_ss]
      simp [updV]
    · show updV _ _ _ _ = .long (eup _ r _ x r _)
      rw [eup_sn hj]
      simp [updV, hj]
  · obtain ⟨k9, rfl⟩ : ∃ k9, r = k9 + 2 := ⟨r - 2, by omega⟩
    exact Nat.le_add_right lo k9
theorem k_aastore {C : String} {T : u_T} {N : Nat} (hx : p.tables.exec = Jvm.exec) (hb : c9.code = cc) (hK : va_K D vwCl (eTys cy) s) (ha : 14 ≤ a1) (ha2 : a1 < 18) (ht : (eTys cy)[a1 - 11]? = some (cy a1, .object C)) (hc : vwCl[a2]? = some (C, T, N)) (hb2 : a2 < 11) (hd : decode cc pc = .ok (.aastore, 1)) : eSok p l e R s m args below meth c9 Q ex lo b D cy maxL mc ms cal md (stI ex sc rt mc ms maxL (.aastore) a1 a2 a3 a4 a5 a6 pc ls st h c z) (pc, ls, st, h, c, z) := by
  refine k_epR fun x t e0 => k_epI fun i t1 e1 => k_epR fun r t2 e2 => k_chk fun q => fun hw Ls H locs h1 h2 h3 h4 h5 => ?_
  subst e2
  subst e1
  subst e0
  obtain ⟨hr2, hrn⟩ := h2.2.1 r (by rw [q.1]; omega)
  have hws := eWo_get (lo := lo) (b := b) (cy := cy) hr2 hrn
  rw [eEnt_R q.1 ha] at hws
  obtain ⟨hx2, hxn⟩ := h2.2.1 x (by rw [q.2.2]; omega)
  have hwx := eWo_get (lo := lo) (b := b) (cy := cy) hx2 hxn
  rw [eEnt_O q.2.2 hb2] at hwx
  have hin := eix_in q.2.1
  have hlt : i.toNatClampNeg < (h.2.1 r).2 := Nat.not_le.mp fun q => hin (Or.inr q)
  have h0 : ¬ i < 0 := fun q => hin (Or.inl q)
  obtain ⟨r', hr', cellV, g1, g2, g3, -⟩ := h2.1 (x - 2) _ hwx
  have hcls := (hK.1 a2 _ hc).2
  obtain ⟨kA, comp, k1, k2, k3, -⟩ := (hK.2 (a1 - 11) _ ht).2
  have hcomp : comp = D.1 a2 := Option.some.inj (k3.symm.trans hcls.1)
  subst hcomp
  obtain ⟨kC, hkC, -⟩ := id hcls.2
  show W p l e R s m args below meth c9 H locs c z Q (F0 m pc Ls (eVal lo b (.inr (.inr x)) :: .int i :: eVal lo b (.inr (.inr r)) :: t2.map (eVal lo b)))
  rw [eVal_ref (r := x) (by omega), eVal_ref (r := r) (by omega)]
  refine W.aast hx hb (h2.1 (r - 2) _ hws) (fun q h => by cases h) (fun h => by cases h) k1 k2 rfl hkC ⟨h0, by show _ < (arrV _ _ _).slots.size; rw [arrV_size]; exact hlt⟩ g1 (fun q h => by rw [g3] at h; cases h) (by rw [g2]; exact hkC) (by rw [g2]; exact va_assign hcls) rfl rfl hd fun H1 e9 z9 oq => ?_
  refine hw Ls H1 _ h1 (eRel_set h2 hr2 hrn (h' := (h.1, h.2.1, h.2.2.1, eup h.2.2.2.1 r i.toNatClampNeg x, h.2.2.2.2)) rfl rfl (eEnt_R (h := (h.1, h.2.1, h.2.2.1, eup h.2.2.2.1 r i.toNatClampNeg x, h.2.2.2.2)) q.1 ha) (fun r' n => eEnt_eq rfl rfl (eup_n n) rfl) ?_ z9 oq) (h3.put z9 oq ?_) h4 h5
  · show H1[eA lo b r]? = some (vp_cell _ _)
    rw [e9]
    rw [vp_cell_q, vp_cell_q, arrV_store]
    congr 2
    funext j
    by_cases hj : j = i.toNatClampNeg
    · subst hj
      show updV _ _ _ _ = va_rf (eOpt lo b (eup _ r _ x r _))
      rw [eup_ss]
      simp only [updV, if_true]
      exact (eVal_ref (lo := lo) (b := b) (r := x) (by omega)).symm
    · show updV _ _ _ _ = va_rf (eOpt lo b (eup _ r _ x r _))
      rw [eup_sn hj]
      simp [updV, hj]
  · obtain ⟨k9, rfl⟩ : ∃ k9, r = k9 + 2 := ⟨r - 2, by omega⟩
    exact Nat.le_add_right lo k9
end EST2
