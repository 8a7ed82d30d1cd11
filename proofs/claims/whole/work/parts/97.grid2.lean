section MB
variable {p : Program} {l : Launch} {e : Env} {R : Room} {s : State} {m : MethodId} {args : Array Value} {below : List Frame} {meth : Method} {c : Code} {T : State} {locs : List Loc} {cells slots : Nat} {H : Heap} {Q : State → Prop}
theorem ma_fill (X : Stand p l e R s m args below meth c T locs cells slots) (cA cI : ClassId) : ∀ i, Stand p l e R s m args below meth c (maS cA cI T i) (locs ++ (List.range i).map fun j => ⟨T.heap.size, j⟩) (cells + (1 + i)) (slots + (10 + 6 * i))
  | 0 => by
    have h := X.pushed (maO cA T.heap.size 0)
    rw [show (maO cA T.heap.size 0).slots.size = 10 from arrV_size _ _ _] at h
    simpa [maS] using h
  | i + 1 => by
    have Xi := ma_fill X cA cI i
    obtain ⟨f1, f2, f3, f4⟩ := maS_f cA cI T i
    have hlt0 : T.heap.size < (maS cA cI T i).heap.size := by omega
    have hcell : ((maS cA cI T i).pushCell (maI cI)).heap[T.heap.size]? = some (maO cA T.heap.size i) := by rw [State.heap_pushCell_of_lt (h := hlt0)]; exact f2
    have h := (Xi.pushed (maI cI)).stored hcell i (.ref (T.heap.size + 1 + i))
    rw [show (maI cI).slots.size = 6 from arrV_size _ _ _, maO_s] at h
    rw [List.range_succ, List.map_append, ← List.append_assoc, show cells + (1 + (i + 1)) = cells + (1 + i) + 1 by omega, show slots + (10 + 6 * (i + 1)) = slots + (10 + 6 * i) + 6 by omega]
    exact h
theorem ma_W {cc : ByteArray} (hexec : p.tables.exec = Jvm.exec) (hb : c.code = cc) {own : String} {index : Nat} (hown : s.vm.findClass own = some m.cls) (hclink : (Cond.classLink own index "[[I").before args s = true) (hover : (Cond.arrayOver (.array .int)).before args s = true) (harr : (Cond.arrayClass .int).before args s = true)
    {g : JFrame} (hg : g.method = m) (hdg : decode cc g.pc = .ok (.multianewarray index 2, 4)) {rest : List Value} (hstack : g.stack = .int 6 :: .int 10 :: rest) (hcells : cells + 11 ≤ R.cells) (hslots : slots + 70 ≤ R.slots)
    (kk : ∀ (cA cI : ClassId) (T0 : State), s.vm.findClass "[[I" = some cA → s.vm.findClass "[I" = some cI → T0.heap = H → W p l e R s m args below meth c (maS cA cI T0 10).heap locs (cells + 11) (slots + 70) Q { g with pc := g.pc + 4, stack := .ref H.size :: rest }) : W p l e R s m args below meth c H locs cells slots Q g := by
  intro T hT X
  subst hT; subst hb; subst hg
  have hpl : e.platform.magicAccessors = ({} : Platform).magicAccessors := by rw [X.admits.platform]
  obtain ⟨cI, cA, kA, hcI, -, hkA, hkdA, hnA⟩ := arrayOverA_spec hover
  obtain ⟨cI', kI, c0, hcI', hkI, hkdI⟩ := Cond.arrayClass_spec harr
  cases hcI'.symm.trans hcI
  obtain ⟨cA', hfA, hcl⟩ := Cond.classLink_spec hown hclink e.platform hpl
  cases hnA.symm.trans hfA
  obtain ⟨hg₁, hwarm, -⟩ := State.classEntry (e := e) X.warmed hcl
  generalize T.vm.noted g.method.cls index (.cls cA) = vm1 at hg₁ hwarm
  have hal : s.vm.Alike vm1 := hwarm.alike
  obtain ⟨kA1, hkA1, eA⟩ := hal.2.2 _ _ hkA
  obtain ⟨kI1, hkI1, eI⟩ := hal.2.2 _ _ hkI
  have dA : kA1.kind = .array cI (.array .int) := by rw [eA]; exact hkdA
  have dI : kI1.kind = .array c0 .int := by rw [eI]; exact hkdI
  have X1 := X.noted hwarm
  obtain ⟨r1, r2⟩ := X.roomAbove hcells hslots
  have XF0 := ma_fill X1 cA cI 10
  have XF := XF0.dropFresh (fun x hx => by
    obtain ⟨j, -, rfl⟩ := List.mem_map.mp hx
    exact X.heapGrown)
  obtain ⟨t, a1, b1⟩ := kk cA cI (T.setVm vm1) hnA hcI rfl (maS cA cI (T.setVm vm1) 10) rfl XF
  refine ⟨t, ?_, b1⟩
  have l1 : ¬ 10 > e.platform.arrayLengthLimit := by rw [Launch.admits_arrayLengthLimit X.admits]; omega
  have l2 : ¬ 40 > e.platform.maxHeapBytes := by rw [Launch.admits_maxHeapBytes X.admits]; omega
  jvm_step X.here [hexec, hdg]
  simp only [multianewarray.sem, wp_bind', W.resolveClassAt_links (State.method?_setTop g X.here.top) hg₁]
  rw [W.popN, if_neg (by decide)]
  refine ⟨g, State.topJava?_setTop' (s := T.setVm vm1) g X.here.top, [.int 10, .int 6], rest, rfl, hstack, ?_⟩
  simp only [List.mapM_cons, List.mapM_nil, wp_bind', wp_pure']
  refine ma_out (k := kA1) (kI := kI1) (cI := cI) (c0 := c0) hkA1 dA hkI1 dI l1 l2 (by show T.heap.size + 11 ≤ _; omega) (by show T.slotsUsed + 70 ≤ _; omega) (fun d' acts' => ?_)
  have eS : ((T.setTop g).setVm vm1).setTop { g with stack := rest } = (T.setVm vm1).setTop { g with stack := rest } := by
    show ((T.setVm vm1).setTop g).setTop _ = _
    rw [State.setTop_setTop]
  rw [eS, maS_top]
  simp only [wp_bind', W.mark, W.pushRef, State.topJava?_setTop' _ XF.here.top, Option.some.injEq, exists_eq_left', State.setTop_setTop, State.heap_setTop]
  intro acts
  simp [jvm, XF.here.top]
  exact a1
end MB
