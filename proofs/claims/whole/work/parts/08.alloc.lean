/-! one step of the evaluator is one step of the machine: what makes cells -/
theorem eRel_grow {D : va_G} {cy : Nat → ClassId} {lo b n : Nat} {h h' : eH} {H H1 : Heap} (hr : eRel true D cy lo b h H) (h1 : h'.1 = h.1 + n) (hK : ∀ r, (h'.2.1 r).1 < 18 → 2 ≤ r ∧ r < h.1 + n) (ho : ∀ r, 2 ≤ r → r < h.1 → eEnt lo b cy h' r = eEnt lo b cy h r)
    (hnew : ∀ j, j < n → va_at D vwCl (H.size + j, eEnt lo b cy h' (h.1 + j)) H1) (z : H1.size = H.size + n) (old : ∀ q : Nat, q < H.size → H1[q]? = H[q]?) : eRel true D cy lo b h' H1 := by
  obtain ⟨r1, r2, r3, r4⟩ := hr
  have hsz := r4 rfl
  refine ⟨fun k q hk => ?_, by rw [h1]; exact hK, by rw [h1]; omega, fun _ => by rw [z, h1, hsz]; omega⟩
  have hg : ∀ i, i < h'.1 - 2 → (eWo lo b cy h')[i]? = some (lo + i, eEnt lo b cy h' (i + 2)) := fun i hi => by
    unfold eWo
    rw [List.getElem?_map, List.getElem?_range hi]
    rfl
  have hkl : k < h'.1 - 2 := by
    have := (List.getElem?_eq_some_iff.mp hk).1
    unfold eWo at this
    rw [List.length_map, List.length_range] at this
    exact this
  rw [hg k hkl] at hk
  cases hk
  by_cases hlt : k + 2 < h.1
  · rw [ho (k + 2) (by omega) hlt]
    have hg2 : (eWo lo b cy h)[k]? = some (lo + k, eEnt lo b cy h (k + 2)) := by
      unfold eWo
      rw [List.getElem?_map, List.getElem?_range (by omega)]
      rfl
    exact (r1 k _ hg2).kept (old _ ((r1 k _ hg2).lt))
  · have := hnew (k + 2 - h.1) (by omega)
    rw [show H.size + (k + 2 - h.1) = lo + k by omega, show h.1 + (k + 2 - h.1) = k + 2 by omega] at this
    exact this
section EUA
variable {α : Type} {f : Nat → α} {r r' : Nat} {x : α}
theorem eupA_s : eupA f r x r = x := by
  unfold eupA
  rw [if_pos rfl]
theorem eupA_n (n : r' ≠ r) : eupA f r x r' = f r' := by
  unfold eupA
  rw [if_neg n]
end EUA
section EST3
variable {p : Program} {l : Launch} {e : Env} {R : Room} {s : State} {m : MethodId} {args : Array Value} {below : List Frame} {meth : Method} {c9 : Code} {Q : State → Prop}
variable {ex : Bool} {lo b : Nat} {D : va_G} {cy : Nat → ClassId} {maxL mc ms : Nat} {cal : Nat → List eV → eH → eR → Prop} {md : eM}
variable {sc : Option (Nat × (Nat → Int32))} {rt a1 a2 a3 a4 a5 a6 : Nat} {pc : Nat} {ls : eL} {st : List eV} {h : eH} {c z : Nat} {cc : ByteArray} {S : eS} {k : eO}

theorem k_new {idx : Nat} {own C : String} {T : u_T} {N : Nat} {Ts : List Cond} (hx : p.tables.exec = Jvm.exec) (hb : c9.code = cc) (hR : R.cells = mc ∧ R.slots = ms) (hlo : lo ≤ s.heap.size) (hts : ∀ w ∈ Ts, w.before args s = true) (hown : s.vm.findClass own = some m.cls) (hK : va_K D vwCl (eTys cy) s) (hC : eCl Ts a1 C T N) (ha : a1 < 11) (hb0 : a2 = 0)
    (hdf : ∃ ty0 : Nat → FieldType, (∀ k, k < N → parseFieldDescriptor (T k).2.2.1 = some (ty0 k)) ∧ ∀ k, k < N → defaultValue (ty0 k) = if eRef a1 k = true then .null else .int 0)
    (hk1 : (Cond.classLink own idx C).before args s = true) (hk2 : (Cond.instantiable C N).before args s = true) (hk3 : (Cond.initialized C).before args s = true) (hd : decode cc pc = .ok (.new idx, 3)) : eSok p l e R s m args below meth c9 Q ex lo b D cy maxL mc ms cal md (stI ex sc rt mc ms maxL (.new idx) a1 a2 a3 a4 a5 a6 pc ls st h c z) (pc, ls, st, h, c, z) := by
  subst hb0
  refine k_chk fun q => fun hw Ls H locs h1 h2 h3 h4 h5 => ?_
  obtain ⟨rfl, q2, q3⟩ := q
  obtain ⟨hc, hN, hin, -, -⟩ := hC
  obtain ⟨ty0, hty, hdf⟩ := hdf
  have hKn := hK.1 a1 _ hc
  have h2 : eRel true D cy lo b h H := h2
  have hsz : H.size = lo + (h.1 - 2) := h2.2.2.2 rfl
  have h2n : 2 ≤ h.1 := h2.2.2.1
  refine W.newcK hx hb hown hk1 hk2 hk3 rfl hd (by rw [hR.1]; exact q2) (by rw [hR.2, hN]; exact q3) hKn.2.1 rfl fun H1 kC hkC e1 z1 o1 => ?_
  have hval : eVal lo b (.inr (.inr h.1)) = .ref H.size := by
    rw [eVal_ref (by omega), hsz]
    obtain ⟨k9, hk9⟩ : ∃ k9, h.1 = k9 + 2 := ⟨h.1 - 2, by omega⟩
    rw [hk9]
    rfl
  rw [hN, ← hval]
  refine hw Ls H1 locs h1 (eRel_grow (n := 1) h2 rfl ?_ ?_ ?_ z1 o1) ⟨Nat.le_trans h3.1 (by omega), fun x g1 g2 => (o1 x (Nat.lt_of_lt_of_le g1 h3.1)).trans (h3.2.1 x g1 g2), h3.2.2⟩ q2 q3
  · intro r hr
    show 2 ≤ r ∧ r < h.1 + 1
    by_cases e9 : r = h.1
    · omega
    · have hr : (eupA h.2.1 h.1 (a1, 0) r).1 < 18 := hr
      rw [eupA_n e9] at hr
      have := h2.2.1 r hr
      omega
  · intro r g1 g2
    exact eEnt_eq (eupA_n (by omega)) (eupA_n (by omega)) (eupA_n (by omega)) rfl
  · intro j hj
    obtain rfl : j = 0 := by omega
    rw [Nat.add_zero, Nat.add_zero, eEnt_O (k := a1) (by show (eupA h.2.1 h.1 (a1, 0) h.1).1 = a1; rw [eupA_s]) ha]
    refine ⟨_, hc, (u_born ty0 hts hin hKn hkC e1 hty).to fun j hj => ?_⟩
    rw [hdf j hj]
    unfold vp_V
    rw [List.getD_eq_getElem?_getD, List.getElem?_map, List.getElem?_range (by rw [← hN]; exact hj), Option.map_some, Option.getD_some]
    show _ = if eRef a1 j = true then va_rf (eOpt lo b (eupA h.2.2.2.1 h.1 (fun _ => 0) h.1 j)) else .int (eupA h.2.2.1 h.1 (fun _ => 0) h.1 j)
    rw [eupA_s, eupA_s]
    rfl
theorem e_cA {cA : ClassId} {k : Nat} {t : FieldType} (hK : va_K D vwCl (eTys cy) s) (ht : (eTys cy)[k - 11]? = some (cy k, t)) (hf : s.vm.findClass ("[" ++ t.toString) = some cA) : cA = cy k := by
  have h2 := (hK.2 (k - 11) _ ht).2
  cases t with
  | object C =>
    obtain ⟨kA, comp, -, -, -, h4⟩ := h2
    exact Option.some.inj (hf.symm.trans h4)
  | _ => exact Option.some.inj (hf.symm.trans h2)
theorem k_newarray {at9 : ArrayType} (hx : p.tables.exec = Jvm.exec) (hb : c9.code = cc) (hR : R.cells = mc ∧ R.slots = ms) (hlo : lo ≤ s.heap.size) (hK : va_K D vwCl (eTys cy) s) (harr : (Cond.arrayClass (newarray.typeOf at9)).before args s = true)
    (hat : (at9 = .int ∧ a1 = 11) ∨ (at9 = .long ∧ a1 = 12) ∨ (at9 = .boolean ∧ a1 = 13)) (hd : decode cc pc = .ok (.newarray at9, 2)) : eSok p l e R s m args below meth c9 Q ex lo b D cy maxL mc ms cal md (stI ex sc rt mc ms maxL (.newarray at9) a1 a2 a3 a4 a5 a6 pc ls st h c z) (pc, ls, st, h, c, z) := by
  refine k_epI fun n t e1 => k_chk fun q => fun hw Ls H locs h1 h2 h3 h4 h5 => ?_
  subst e1
  obtain ⟨rfl, q2, q3, q4, q5⟩ := q
  have h2 : eRel true D cy lo b h H := h2
  have hsz : H.size = lo + (h.1 - 2) := h2.2.2.2 rfl
  have h2n : 2 ≤ h.1 := h2.2.2.1
  refine va_newaK hx hb harr rfl hd rfl q2 rfl (by
    have : componentBytes (newarray.typeOf at9) ≤ 8 := by rcases hat with ⟨rfl, -⟩ | ⟨rfl, -⟩ | ⟨rfl, -⟩ <;> decide
    exact Nat.le_trans (Nat.mul_le_mul q3 this) (by decide)) (by rw [hR.1]; exact q4) (by rw [hR.2]; exact q5) rfl fun H1 cA e1 z1 o1 hAr hNm => ?_
  have hval : eVal lo b (.inr (.inr h.1)) = .ref H.size := by
    rw [eVal_ref (by omega), hsz]
    obtain ⟨k9, hk9⟩ : ∃ k9, h.1 = k9 + 2 := ⟨h.1 - 2, by omega⟩
    rw [hk9]
    rfl
  rw [← hval]
  refine hw Ls H1 locs h1 (eRel_grow (n := 1) h2 rfl ?_ ?_ ?_ z1 o1) ⟨Nat.le_trans h3.1 (by omega), fun x g1 g2 => (o1 x (Nat.lt_of_lt_of_le g1 h3.1)).trans (h3.2.1 x g1 g2), h3.2.2⟩ q4 q5
  · intro r hr
    show 2 ≤ r ∧ r < h.1 + 1
    by_cases e9 : r = h.1
    · omega
    · have hr : (eupA h.2.1 h.1 (a1, n.toNatClampNeg) r).1 < 18 := hr
      rw [eupA_n e9] at hr
      have := h2.2.1 r hr
      omega
  · intro r g1 g2
    exact eEnt_eq (eupA_n (by omega)) (eupA_n (by omega)) (eupA_n (by omega)) (eupA_n (by omega))
  · intro j hj
    obtain rfl : j = 0 := by omega
    rw [Nat.add_zero, Nat.add_zero]
    rcases hat with ⟨rfl, rfl⟩ | ⟨rfl, rfl⟩ | ⟨rfl, rfl⟩
    · rw [eEnt_I (by show (eupA h.2.1 h.1 _ h.1).1 = 11; rw [eupA_s])]
      show H1[H.size]? = some (vp_cell (cy 11) ((eupA h.2.1 h.1 _ h.1).2, .inl (eupA h.2.2.1 h.1 (fun _ => 0) h.1)))
      rw [eupA_s, eupA_s, e1, e_cA (k := 11) hK rfl hNm]
      rfl
    · rw [eEnt_J (by show (eupA h.2.1 h.1 _ h.1).1 = 12; rw [eupA_s])]
      show H1[H.size]? = some (vp_cell (cy 12) ((eupA h.2.1 h.1 _ h.1).2, .inr (.inl (eupA h.2.2.2.2 h.1 (fun _ => 0) h.1))))
      rw [eupA_s, eupA_s, e1, e_cA (k := 12) hK rfl hNm]
      rfl
    · rw [eEnt_Z (by show (eupA h.2.1 h.1 _ h.1).1 = 13; rw [eupA_s])]
      show H1[H.size]? = some (vp_cell (cy 13) ((eupA h.2.1 h.1 _ h.1).2, .inl (eupA h.2.2.1 h.1 (fun _ => 0) h.1)))
      rw [eupA_s, eupA_s, e1, e_cA (k := 13) hK rfl hNm]
      rfl
theorem k_anewarray {idx : Nat} {own C : String} (hx : p.tables.exec = Jvm.exec) (hb : c9.code = cc) (hR : R.cells = mc ∧ R.slots = ms) (hlo : lo ≤ s.heap.size) (hown : s.vm.findClass own = some m.cls) (hK : va_K D vwCl (eTys cy) s) (ha : 14 ≤ a1) (ha2 : a1 < 18) (ht : (eTys cy)[a1 - 11]? = some (cy a1, .object C))
    (hk1 : (Cond.classLink own idx C).before args s = true) (hover : va_AO C s) (hd : decode cc pc = .ok (.anewarray idx, 3)) : eSok p l e R s m args below meth c9 Q ex lo b D cy maxL mc ms cal md (stI ex sc rt mc ms maxL (.anewarray idx) a1 a2 a3 a4 a5 a6 pc ls st h c z) (pc, ls, st, h, c, z) := by
  refine k_epI fun n t e1 => k_chk fun q => fun hw Ls H locs h1 h2 h3 h4 h5 => ?_
  subst e1
  obtain ⟨rfl, q2, q3, q4, q5⟩ := q
  have h2 : eRel true D cy lo b h H := h2
  have hsz : H.size = lo + (h.1 - 2) := h2.2.2.2 rfl
  have h2n : 2 ≤ h.1 := h2.2.2.1
  refine W.anew hx hb hown hk1 (va_AO.use hover) rfl hd rfl q2 (by omega) (by rw [hR.1]; exact q4) (by rw [hR.2]; exact q5) fun cA kA comp f1 f2 f3 f4 => ?_
  generalize hH1 : H.push ({ cls := cA, slots := Array.replicate n.toNatClampNeg .null, vm := .none } : Cell) = H1
  have z1 : H1.size = H.size + 1 := by rw [← hH1, Array.size_push]
  have e1 : H1[H.size]? = some (arrV cA n.toNatClampNeg (fun _ => .null)) := by rw [← hH1, Array.getElem?_push_size, ← arrV_new]
  have o1 : ∀ q : Nat, q < H.size → H1[q]? = H[q]? := fun q hq => by rw [← hH1, Array.getElem?_push, if_neg (Nat.ne_of_lt hq)]
  have hval : eVal lo b (.inr (.inr h.1)) = .ref H.size := by
    rw [eVal_ref (by omega), hsz]
    obtain ⟨k9, hk9⟩ : ∃ k9, h.1 = k9 + 2 := ⟨h.1 - 2, by omega⟩
    rw [hk9]
    rfl
  rw [← hval]
  refine hw Ls H1 locs h1 (eRel_grow (n := 1) h2 rfl ?_ ?_ ?_ z1 o1) ⟨Nat.le_trans h3.1 (by omega), fun x g1 g2 => (o1 x (Nat.lt_of_lt_of_le g1 h3.1)).trans (h3.2.1 x g1 g2), h3.2.2⟩ q4 q5
  · intro r hr
    show 2 ≤ r ∧ r < h.1 + 1
    by_cases e9 : r = h.1
    · omega
    · have hr : (eupA h.2.1 h.1 (a1, n.toNatClampNeg) r).1 < 18 := hr
      rw [eupA_n e9] at hr
      have := h2.2.1 r hr
      omega
  · intro r g1 g2
    exact eEnt_eq (eupA_n (by omega)) (eupA_n (by omega)) (eupA_n (by omega)) rfl
  · intro j hj
    obtain rfl : j = 0 := by omega
    rw [Nat.add_zero, Nat.add_zero, eEnt_R (k := a1) (by show (eupA h.2.1 h.1 _ h.1).1 = a1; rw [eupA_s]) ha]
    show H1[H.size]? = some (vp_cell (cy a1) ((eupA h.2.1 h.1 _ h.1).2, .inr (.inr (.inr (.inr (fun j => eOpt lo b (eupA h.2.2.2.1 h.1 (fun _ => 0) h.1 j)))))))
    rw [eupA_s, eupA_s, e1, e_cA (k := a1) hK ht f1]
    rfl
theorem k_multianewarray {idx : Nat} {own : String} (hx : p.tables.exec = Jvm.exec) (hb : c9.code = cc) (hR : R.cells = mc ∧ R.slots = ms) (hlo : lo ≤ s.heap.size) (hown : s.vm.findClass own = some m.cls) (hK : va_K D vwCl (eTys cy) s)
    (hk1 : (Cond.classLink own idx ("[" ++ (FieldType.array .int).toString)).before args s = true) (hover : va_AOA .int s) (harr : (Cond.arrayClass .int).before args s = true) (hd : decode cc pc = .ok (.multianewarray idx 2, 4)) : eSok p l e R s m args below meth c9 Q ex lo b D cy maxL mc ms cal md (stI ex sc rt mc ms maxL (.multianewarray idx 2) a1 a2 a3 a4 a5 a6 pc ls st h c z) (pc, ls, st, h, c, z) := by
  refine k_epI fun k t1 e1 => k_epI fun n t2 e2 => k_chk fun q => fun hw Ls H locs h1 h2 h3 h4 h5 => ?_
  subst e2
  subst e1
  obtain ⟨rfl, q2, q2', q3, q3', q4, q5⟩ := q
  have h2 : eRel true D cy lo b h H := h2
  have hsz : H.size = lo + (h.1 - 2) := h2.2.2.2 rfl
  have h2n : 2 ≤ h.1 := h2.2.2.1
  intro T hT Xs
  obtain ⟨vm₁, cA, comp, -, fA, fC, hO, -, X', step⟩ := Xs.multianewarray2F hx hown hk1 (va_AOA.use hover) harr (g := F0 m pc Ls (.int k :: .int n :: t2.map (eVal lo b))) rfl (by rw [hb]; exact hd) rfl q2 q2' (by omega) (by show _ * 4 ≤ _; omega) (by omega) rfl rfl (by rw [hR.1]; show c + _ ≤ _; omega) (by rw [hR.2]; show z + _ ≤ _; omega)
  have hcy : comp = cy 11 := e_cA (k := 11) (t := .int) hK rfl fC
  subst hcy
  generalize hF : Jvm.Free.Multi.fill (T.setVm vm₁) cA (cy 11) n.toNatClampNeg k.toNatClampNeg (defaultValue .int) n.toNatClampNeg = F at X' step
  have hTh : (T.setVm vm₁).heap = H := hT
  obtain ⟨f1, f2, -, -⟩ := Jvm.Free.Multi.fill_facts (T.setVm vm₁) cA (cy 11) n.toNatClampNeg k.toNatClampNeg (defaultValue .int) n.toNatClampNeg
  rw [hF, hTh] at f1 f2
  have hold : ∀ x : Nat, x < H.size → F.heap[x]? = H[x]? := fun x hx => by
    have := Jvm.Free.Multi.fill_old (T.setVm vm₁) cA (cy 11) n.toNatClampNeg k.toNatClampNeg (defaultValue .int) (a := x) (by rw [hTh]; exact hx) n.toNatClampNeg
    rw [hF, hTh] at this
    exact this
  have hrow : ∀ j : Nat, j < n.toNatClampNeg → F.heap[H.size + 1 + j]? = some (vp_cell (cy 11) (k.toNatClampNeg, .inl (fun _ => 0))) := fun j hj => by
    have := Jvm.Free.Multi.fill_inner (T.setVm vm₁) cA (cy 11) n.toNatClampNeg k.toNatClampNeg (defaultValue .int) n.toNatClampNeg j hj
    rw [hF, hTh] at this
    rw [this]
    show some ({ cls := cy 11, slots := Array.replicate k.toNatClampNeg (Value.int 0), vm := .none } : Cell) = _
    rw [arrV_new]
    rfl
  rw [vr_outer cA n.toNatClampNeg H.size n.toNatClampNeg] at f2
  have hcA : cA = cy 17 := e_cA (k := 17) (t := .array .int) hK rfl fA
  subst hcA
  have hval : eVal lo b (.inr (.inr h.1)) = .ref H.size := by
    rw [eVal_ref (by omega), hsz]
    obtain ⟨k9, hk9⟩ : ∃ k9, h.1 = k9 + 2 := ⟨h.1 - 2, by omega⟩
    rw [hk9]
    rfl
  have hfin := hw Ls F.heap locs h1 (eRel_grow (n := 1 + n.toNatClampNeg) h2 (by show h.1 + 1 + n.toNatClampNeg = _; omega) ?_ ?_ ?_ (by rw [f1]; omega) hold) ⟨by rw [f1]; have := h3.1; omega, fun x g1 g2 => (hold x (Nat.lt_of_lt_of_le g1 h3.1)).trans (h3.2.1 x g1 g2), h3.2.2⟩ q4 q5
  · obtain ⟨t, a1, b1⟩ := hfin F rfl X'
    refine ⟨t, step t ?_, b1⟩
    rw [show T.heap.size = H.size by rw [hT], ← hval]
    exact a1
  · intro r hr
    show 2 ≤ r ∧ r < h.1 + (1 + n.toNatClampNeg)
    by_cases e9 : h.1 ≤ r ∧ r < h.1 + 1 + n.toNatClampNeg
    · omega
    · have hr : (if h.1 ≤ r ∧ r < h.1 + 1 + n.toNatClampNeg then (if r = h.1 then (17, n.toNatClampNeg) else (11, k.toNatClampNeg)) else h.2.1 r).1 < 18 := hr
      rw [if_neg e9] at hr
      have := h2.2.1 r hr
      omega
  · intro r g1 g2
    have hn : ¬ (h.1 ≤ r ∧ r < h.1 + 1 + n.toNatClampNeg) := by omega
    exact eEnt_eq (if_neg hn) (if_neg hn) (eupA_n (by omega)) rfl
  · intro j hj
    have hin : h.1 ≤ h.1 + j ∧ h.1 + j < h.1 + 1 + n.toNatClampNeg := by omega
    by_cases hj0 : j = 0
    · subst hj0
      rw [Nat.add_zero, Nat.add_zero]
      have hkk : ∀ z : Nat × Nat, (if h.1 ≤ h.1 ∧ h.1 < h.1 + 1 + n.toNatClampNeg then (if h.1 = h.1 then (17, n.toNatClampNeg) else (11, k.toNatClampNeg)) else z) = (17, n.toNatClampNeg) := fun z => by rw [if_pos ⟨Nat.le_refl _, by omega⟩, if_pos rfl]
      rw [eEnt_R (k := 17) (by show (if h.1 ≤ h.1 ∧ h.1 < h.1 + 1 + n.toNatClampNeg then (if h.1 = h.1 then (17, n.toNatClampNeg) else (11, k.toNatClampNeg)) else h.2.1 h.1).1 = 17; rw [hkk]) (by decide)]
      show F.heap[H.size]? = some (vp_cell (cy 17) ((if h.1 ≤ h.1 ∧ h.1 < h.1 + 1 + n.toNatClampNeg then (if h.1 = h.1 then (17, n.toNatClampNeg) else (11, k.toNatClampNeg)) else h.2.1 h.1).2, .inr (.inr (.inr (.inr (fun j => eOpt lo b (eupA h.2.2.2.1 h.1 (fun j => if j < n.toNatClampNeg then h.1 + 1 + j else 0) h.1 j)))))))
      rw [hkk, eupA_s, f2, vp_cell_q]
      congr 2
      funext j
      by_cases hj : j < n.toNatClampNeg
      · rw [if_pos hj, if_pos hj]
        obtain ⟨k9, hk9⟩ : ∃ k9, h.1 = k9 + 2 := ⟨h.1 - 2, by omega⟩
        show Value.ref (H.size + 1 + j) = va_rf (eOpt lo b (h.1 + 1 + j))
        rw [show h.1 + 1 + j = (k9 + 1 + j) + 2 by omega]
        show Value.ref (H.size + 1 + j) = Value.ref (lo + (k9 + 1 + j))
        rw [show H.size + 1 + j = lo + (k9 + 1 + j) by omega]
      · rw [if_neg hj, if_neg hj]
        rfl
    · have hne : ¬ h.1 + j = h.1 := by omega
      have hkk : ∀ z : Nat × Nat, (if h.1 ≤ h.1 + j ∧ h.1 + j < h.1 + 1 + n.toNatClampNeg then (if h.1 + j = h.1 then (17, n.toNatClampNeg) else (11, k.toNatClampNeg)) else z) = (11, k.toNatClampNeg) := fun z => by rw [if_pos hin, if_neg hne]
      rw [eEnt_I (by show (if h.1 ≤ h.1 + j ∧ h.1 + j < h.1 + 1 + n.toNatClampNeg then (if h.1 + j = h.1 then (17, n.toNatClampNeg) else (11, k.toNatClampNeg)) else h.2.1 (h.1 + j)).1 = 11; rw [hkk])]
      show F.heap[H.size + j]? = some (vp_cell (cy 11) ((if h.1 ≤ h.1 + j ∧ h.1 + j < h.1 + 1 + n.toNatClampNeg then (if h.1 + j = h.1 then (17, n.toNatClampNeg) else (11, k.toNatClampNeg)) else h.2.1 (h.1 + j)).2, .inl (if h.1 ≤ h.1 + j ∧ h.1 + j < h.1 + 1 + n.toNatClampNeg then (fun _ => 0) else h.2.2.1 (h.1 + j))))
      rw [hkk, if_pos hin, ← hrow (j - 1) (by omega), show H.size + 1 + (j - 1) = H.size + j by omega]
theorem k_ldc {idx : Nat} {own : String} {v : Int32} (hx : p.tables.exec = Jvm.exec) (hb : c9.code = cc) (hown : s.vm.findClass own = some m.cls) (hk : (Cond.constant own idx v).before args s = true) (hv : v = Int32.ofNat a1) (hd : decode cc pc = .ok (.ldc idx, 2)) : eSok p l e R s m args below meth c9 Q ex lo b D cy maxL mc ms cal md (stI ex sc rt mc ms maxL (.ldc idx) a1 a2 a3 a4 a5 a6 pc ls st h c z) (pc, ls, st, h, c, z) := by
  subst hv
  exact fun hw Ls H locs h1 h2 h3 h4 h5 => lv_ldc hx hb hown hk hd (hw Ls H locs h1 h2 h3 h4 h5)
theorem k_ldc_w {idx : Nat} {own : String} {v : Int32} (hx : p.tables.exec = Jvm.exec) (hb : c9.code = cc) (hown : s.vm.findClass own = some m.cls) (hk : (Cond.constant own idx v).before args s = true) (hv : v = Int32.ofNat a1) (hd : decode cc pc = .ok (.ldc_w idx, 3)) : eSok p l e R s m args below meth c9 Q ex lo b D cy maxL mc ms cal md (stI ex sc rt mc ms maxL (.ldc_w idx) a1 a2 a3 a4 a5 a6 pc ls st h c z) (pc, ls, st, h, c, z) := by
  subst hv
  exact fun hw Ls H locs h1 h2 h3 h4 h5 => lv_ldcw hx hb hown hk hd (hw Ls H locs h1 h2 h3 h4 h5)
theorem k_ldc2_w {idx : Nat} {own : String} {v : Int64} (hx : p.tables.exec = Jvm.exec) (hb : c9.code = cc) (hown : s.vm.findClass own = some m.cls) (hk : (Cond.constantLong own idx v).before args s = true) (hv : v = Int64.ofNat a1) (hd : decode cc pc = .ok (.ldc2_w idx, 3)) : eSok p l e R s m args below meth c9 Q ex lo b D cy maxL mc ms cal md (stI ex sc rt mc ms maxL (.ldc2_w idx) a1 a2 a3 a4 a5 a6 pc ls st h c z) (pc, ls, st, h, c, z) := by
  subst hv
  exact fun hw Ls H locs h1 h2 h3 h4 h5 => lv_ldc2 hx hb hown hk hd (hw Ls H locs h1 h2 h3 h4 h5)
theorem k_objInit {idx : Nat} {own : String} (hx : p.tables.exec = Jvm.exec) (hb : c9.code = cc) (hml : c9.maxLocals = maxL) (hR : 1 ≤ R.frames ∧ 20 ≤ R.locals) (hown : s.vm.findClass own = some m.cls) (hk1 : (Cond.methodLink own idx Lib.objectInit).before args s = true) (hk2 : (Cond.instanceMethod Lib.objectInit).before args s = true) (hk3 : (Cond.code Lib.objectInit ⟨#[0xb1]⟩ 1 none).before args s = true) (hb0 : a2 = 0) (hd : decode cc pc = .ok (.invokespecial idx, 3)) : eSok p l e R s m args below meth c9 Q ex lo b D cy maxL mc ms cal md (stI ex sc rt mc ms maxL (.invokespecial idx) a1 a2 a3 a4 a5 a6 pc ls st h c z) (pc, ls, st, h, c, z) := by
  subst hb0
  show eSok p l e R s m args below meth c9 Q ex lo b D cy maxL mc ms cal md (match st with | .inr (.inr r) :: t => (if 2 ≤ r ∧ ecats t ≤ 8 then .inl (pc + 3, ls, t, h, c, z) else estk) | _ => estk) (pc, ls, st, h, c, z)
  rcases st with _ | ⟨x | x | r, t⟩
  · exact trivial
  · exact trivial
  · exact trivial
  · refine k_chk fun q => fun hw Ls H locs h1 h2 h3 h4 h5 => ?_
    show W p l e R s m args below meth c9 H locs c z Q (F0 m pc Ls (eVal lo b (.inr (.inr r)) :: t.map (eVal lo b)))
    rw [eVal_ref (by omega)]
    refine W.objInit hx hb hown hk1 hk2 hk3 rfl (h1.1.trans hml.symm) rfl hd hR.1 ?_ (hw Ls H locs h1 h2 h3 h4 h5)
    rw [ecats_sum]
    show 2 * 0 + _ + 12 ≤ _
    omega
theorem k_mmin {idx : Nat} {own : String} (hx : p.tables.exec = Jvm.exec) (hb : c9.code = cc) (hml : c9.maxLocals = maxL) (hR : R.cells = mc ∧ R.slots = ms ∧ 1 ≤ R.frames ∧ 21 ≤ R.locals) (hown : s.vm.findClass own = some m.cls) (hb2 : a2 = 2) (k1 : (Cond.methodLink own idx Lib.Math.min.name).before args s = true) (k2 : (Cond.static Lib.Math.min.name).before args s = true) (k3 : (Cond.initialized "java/lang/Math").before args s = true) (k4 : (Cond.code Lib.Math.min.name Lib.Math.min.code 2 (some .int)).before args s = true) (hd : decode cc pc = .ok (.invokestatic idx, 3)) : eSok p l e R s m args below meth c9 Q ex lo b D cy maxL mc ms cal md (stI ex sc rt mc ms maxL (.invokestatic idx) a1 a2 a3 a4 a5 a6 pc ls st h c z) (pc, ls, st, h, c, z) := by
  subst hb2
  refine k_epI fun y t e1 => k_epI fun x t2 e2 => k_chk fun q => fun hw Ls H locs h1 h2 h3 h4 h5 => ?_
  subst e2
  subst e1
  exact va_mmin hx hb (hml.trans h1.1.symm) hown k1 k2 k3 k4 hR.2.2.1 (by rw [ecats_sum]; omega) (by rw [hR.1]; exact h4) (by rw [hR.2.1]; exact h5) hd (hw Ls H locs h1 h2 h3 h4 h5)
end EST3
