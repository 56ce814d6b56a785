/-! the law's entry: what the machine's tables and the Statement say of the start -/
section EZZ
def zFl : List Jvm.Cond := flatC (Jvm.Cond.and given_1 narrow_1)
theorem z_NW : eNW.all (fun w => w.onTables && decide (w ∈ lw_tbl)) = true := by decide +kernel
theorem z_Tx : eTx.all (fun q => decide (Jvm.Cond.stringRef RX11 q.1 q.2 ∈ lw_tbl) && decide (Jvm.Cond.exactly (.string RX11 q.1) "java/lang/String" ∈ zFl)) = true := by decide +kernel
theorem z_NP : eNP.all (fun q => decide (Jvm.Cond.not (.castable q.1 q.2) ∈ zFl)) = true := by decide +kernel
def zAl : List Jvm.Cond := [.arrayOver (.object RX0), .arrayOver (.object RX2), .arrayOver (.object RX7), .arrayOver (.array .int), .arrayClass .int, .arrayClass .long, .arrayClass .boolean, .laysStatic Bundle.tN "UNASSIGNED_STACK" Bundle.steD, .laysStatic Bundle.tN "SUPPRESSED_SENTINEL" Bundle.listD, .initialized Bundle.tN]
theorem z_A : zAl.all (fun w => decide (w ∈ lw_tbl)) = true := by decide +kernel
theorem z_S : (decide (Jvm.Cond.isRef (.static Bundle.tN "UNASSIGNED_STACK" Bundle.steD) ∈ zFl) && decide (Jvm.Cond.isRef (.static Bundle.tN "SUPPRESSED_SENTINEL" Bundle.listD) ∈ zFl)) = true := by decide +kernel
theorem z_I : (List.range 11).all (fun k => decide (Jvm.Cond.instantiable (eCn k) (eNF k) ∈ lw_tbl)) = true := by decide +kernel
variable {args : Array Value} {s : State}
/-- the numbers of the classes and of the arrays' classes -/
theorem z_K (hts : ∀ w ∈ lw_tbl, w.before args s = true) : ∃ (D : va_G) (cy : Nat → ClassId), va_K D vwCl (eTys cy) s := by
  have hA : ∀ w, w ∈ zAl → w.before args s = true := fun w hw => hts w (of_decide_eq_true (List.all_eq_true.mp z_A w hw))
  have hG : ∀ w ∈ eGW, w.before args s = true := fun w hw => hts w ((List.mem_filter.mp hw).1)
  have h1 : ∀ k, ∃ (cC : ClassId) (iS : Nat → Nat), k < 11 → u_Kn s (eCn k) (fun j => eFd k j) (eNF k) cC iS := by
    intro k
    by_cases hk : k < 11
    · obtain ⟨⟨c1, c2, c3, c4⟩, -⟩ := eCl_of hk
      obtain ⟨cC, iS, h⟩ := u_known (C := eCn k) (T := fun j => eFd k j) (N := eNF k) (n := eNF k) hG c3 (hts _ (of_decide_eq_true (List.all_eq_true.mp z_I k (List.mem_range.mpr hk))))
      exact ⟨cC, iS, fun _ => h⟩
    · exact ⟨0, fun _ => 0, fun h => absurd h hk⟩
  obtain ⟨c0, k0, p0, a1, a2, a3, a4⟩ : ∃ comp c k, s.vm.findClass RX0 = some comp ∧ s.vm.classes[c]? = some k ∧ k.kind = .array comp (.object RX0) ∧ s.vm.findClass ("[" ++ (FieldType.object RX0).toString) = some c := by
    obtain ⟨comp, c, k, h1, h2, h3, h4, h5⟩ := Cond.arrayOver_spec (hA (.arrayOver (.object RX0)) (by simp [zAl]))
    exact ⟨comp, c, k, h1, h3, h4, h5⟩
  obtain ⟨c1, k1, p1, b1, b2, b3, b4⟩ : ∃ comp c k, s.vm.findClass RX2 = some comp ∧ s.vm.classes[c]? = some k ∧ k.kind = .array comp (.object RX2) ∧ s.vm.findClass ("[" ++ (FieldType.object RX2).toString) = some c := by
    obtain ⟨comp, c, k, h1, h2, h3, h4, h5⟩ := Cond.arrayOver_spec (hA (.arrayOver (.object RX2)) (by simp [zAl]))
    exact ⟨comp, c, k, h1, h3, h4, h5⟩
  obtain ⟨c2, k2, p2, d1, d2, d3, d4⟩ : ∃ comp c k, s.vm.findClass RX7 = some comp ∧ s.vm.classes[c]? = some k ∧ k.kind = .array comp (.object RX7) ∧ s.vm.findClass ("[" ++ (FieldType.object RX7).toString) = some c := by
    obtain ⟨comp, c, k, h1, h2, h3, h4, h5⟩ := Cond.arrayOver_spec (hA (.arrayOver (.object RX7)) (by simp [zAl]))
    exact ⟨comp, c, k, h1, h3, h4, h5⟩
  obtain ⟨c3, k3, p3, e1, e2, e3, e4, e5⟩ := arrayOverA_spec (hA (.arrayOver (.array .int)) (by simp [zAl]))
  obtain ⟨kI, pI, qI, f1, f2, f3⟩ := Cond.arrayClass_spec (hA (.arrayClass .int) (by simp [zAl]))
  obtain ⟨kJ, pJ, qJ, g1, g2, g3⟩ := Cond.arrayClass_spec (hA (.arrayClass .long) (by simp [zAl]))
  obtain ⟨kZ, pZ, qZ, i1, i2, i3⟩ := Cond.arrayClass_spec (hA (.arrayClass .boolean) (by simp [zAl]))
  refine ⟨(fun k => Classical.choose (h1 k), fun k => Classical.choose (Classical.choose_spec (h1 k))), fun k => if k = 11 then kI else if k = 12 then kJ else if k = 13 then kZ else if k = 14 then k0 else if k = 15 then k1 else if k = 16 then k2 else k3, fun k q hq => ?_, fun k q hq => ?_⟩
  · have hk : k < 11 := (List.getElem?_eq_some_iff.mp hq).1
    obtain ⟨⟨w1, -⟩, -⟩ := eCl_of hk
    rw [w1] at hq
    have hq := Option.some.inj hq
    subst hq
    exact Classical.choose_spec (Classical.choose_spec (h1 k)) hk
  · match k, hq with
    | 0, hq => cases hq; exact ⟨fun n z => ⟨fun k h => (by cases h), pI, f2, qI, f3⟩, f1⟩
    | 1, hq => cases hq; exact ⟨fun n z => ⟨fun k h => (by cases h), pJ, g2, qJ, g3⟩, g1⟩
    | 2, hq => cases hq; exact ⟨fun n z => ⟨fun k h => (by cases h), pZ, i2, qZ, i3⟩, i1⟩
    | 3, hq => cases hq; exact ⟨fun n z => ⟨fun k h => (by cases h), p0, a2, c0, a3⟩, p0, c0, a2, a3, a1, a4⟩
    | 4, hq => cases hq; exact ⟨fun n z => ⟨fun k h => (by cases h), p1, b2, c1, b3⟩, p1, c1, b2, b3, b1, b4⟩
    | 5, hq => cases hq; exact ⟨fun n z => ⟨fun k h => (by cases h), p2, d2, c2, d3⟩, p2, c2, d2, d3, d1, d4⟩
    | 6, hq => cases hq; exact ⟨fun n z => ⟨fun k h => (by cases h), p3, e3, c3, e4⟩, e5⟩
    | k + 7, hq => simp [eTys] at hq
theorem z_G {D : va_G} {cy : Nat → ClassId} (hts : ∀ w ∈ lw_tbl, w.before args s = true) (hg : (Jvm.Cond.and given_1 narrow_1).before args s = true) (hK : va_K D vwCl (eTys cy) s) : eG s.heap.size D cy s s.heap := by
  have hA : ∀ w, w ∈ zAl → w.before args s = true := fun w hw => hts w (of_decide_eq_true (List.all_eq_true.mp z_A w hw))
  have hf : ∀ w, w ∈ zFl → w.before args s = true := flat_of_before _ hg
  have hS := z_S
  rw [Bool.and_eq_true, decide_eq_true_eq, decide_eq_true_eq] at hS
  have hn : ∀ a : Nat, a < s.heap.size → ¬ (fun q : Nat => s.heap.size ≤ q) a := fun a h => Nat.not_le.mpr h
  refine ⟨hK, fun w hw => ?_, fun q hq => ?_, fun q hq => ?_, ⟨va_AO.of (hA (.arrayOver (.object RX0)) (by simp [zAl])), va_AO.of (hA (.arrayOver (.object RX2)) (by simp [zAl])), va_AO.of (hA (.arrayOver (.object RX7)) (by simp [zAl])), va_AOA.of (hA (.arrayOver (.array .int)) (by simp [zAl]))⟩, ?_, ?_⟩
  · have h := List.all_eq_true.mp z_NW w hw
    rw [Bool.and_eq_true, decide_eq_true_eq] at h
    exact va_Nw.of h.1 (hts w h.2)
  · have h := List.all_eq_true.mp z_Tx q hq
    rw [Bool.and_eq_true, decide_eq_true_eq, decide_eq_true_eq] at h
    obtain ⟨a, c, cell, k, h1, -⟩ := Cond.exactly_spec (hf _ h.2)
    exact ⟨a, vk_R.of (hts _ h.1) h1⟩
  · exact va_Nc.of (hf _ (of_decide_eq_true (List.all_eq_true.mp z_NP q hq)))
  · exact vx_Zqof (hA (.laysStatic Bundle.tN "UNASSIGNED_STACK" Bundle.steD) (by simp [zAl])) (hA (.initialized Bundle.tN) (by simp [zAl])) (hf _ hS.1) hn
  · exact vx_Zqof (hA (.laysStatic Bundle.tN "SUPPRESSED_SENTINEL" Bundle.listD) (by simp [zAl])) (hA (.initialized Bundle.tN) (by simp [zAl])) (hf _ hS.2) hn
theorem z_l {l : Launch} (h : l.flags = flags0) : l.stackTraces = false := by
  unfold Launch.stackTraces
  rw [h]
  decide +kernel
end EZZ
