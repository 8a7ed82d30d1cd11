section MB
variable {p : Program} {l : Launch} {e : Env} {R : Room} {s : State} {m : MethodId} {args : Array Value} {below : List Frame} {meth : Method} {c : Code} {T : State} {locs : List Loc} {cells slots : Nat} {H : Heap} {Q : State → Prop}
theorem ma_stand (X : Stand p l e R s m args below meth c T locs cells slots) (cI : ClassId) (Y : Cell) : ∀ n, Stand p l e R s m args below meth c (maP cI T Y n) locs (cells + (n + 1)) (slots + (Y.slots.size + 6 * n))
  | 0 => X.pushed Y
  | n + 1 => by
    have h := (ma_stand X cI Y n).pushed (maI cI)
    rw [maI_n, show slots + (Y.slots.size + 6 * n) + 6 = slots + (Y.slots.size + 6 * (n + 1)) by omega] at h
    exact h
theorem ma_W {cc : ByteArray} (hexec : p.tables.exec = Jvm.exec) (hb : c.code = cc) {own : String} {index : Nat} (hown : s.vm.findClass own = some m.cls) (hclink : (Cond.classLink own index "[[I").before args s = true) (hover : (Cond.arrayOver (.array .int)).before args s = true) (harr : (Cond.arrayClass .int).before args s = true)
    {g : JFrame} (hg : g.method = m) (hdg : decode cc g.pc = .ok (.multianewarray index 2, 4)) {rest : List Value} (hstack : g.stack = .int 6 :: .int 10 :: rest) (hcells : cells + 11 ≤ R.cells) (hslots : slots + 70 ≤ R.slots)
    (kk : ∀ (cA cI : ClassId) (T0 : State), s.vm.findClass "[[I" = some cA → s.vm.findClass "[I" = some cI → T0.heap = H → W p l e R s m args below meth c (maS cA cI T0 10).heap locs (cells + 11) (slots + 70) Q { g with pc := g.pc + 4, stack := .ref H.size :: rest }) : W p l e R s m args below meth c H locs cells slots Q g := by
  intro T hT X
  subst hT; subst hb; subst hg
  obtain ⟨cI, cA, kA, hcI, -, hkA, hdA, hnA⟩ := arrayOverA_spec hover
  obtain ⟨cJ, kI, c0, hcJ, hkI, hdI⟩ := Cond.arrayClass_spec harr
  obtain rfl : cJ = cI := Option.some.inj (hcJ.symm.trans hcI)
  obtain ⟨cB, hnB, hcl⟩ := Cond.classLink_spec hown hclink e.platform (by rw [X.admits.platform])
  obtain rfl : cB = cA := Option.some.inj (hnB.symm.trans hnA)
  obtain ⟨hg1, hw1, -⟩ := State.classEntry (e := e) X.warmed hcl
  have X1 := X.noted hw1
  have XG := ma_stand X1 cJ (maO cB T.heap.size 10) 10
  rw [maO_n] at XG
  obtain ⟨t, st, ht⟩ := kk cB cJ (T.setVm (T.vm.noted g.method.cls index (.cls cB))) hnA hcI rfl _ rfl XG
  obtain ⟨kA1, q1, eA⟩ := hw1.alike.2.2 _ _ hkA
  obtain ⟨kI1, q2, eI⟩ := hw1.alike.2.2 _ _ hkI
  have room := X.roomAbove hcells hslots
  have lim : 10 ≤ e.platform.arrayLengthLimit := by rw [Launch.admits_arrayLengthLimit X.admits]; omega
  have byt : 40 ≤ e.platform.maxHeapBytes := by rw [Launch.admits_maxHeapBytes X.admits]; omega
  refine ⟨t, ?_, ht⟩
  jvm_step X.here [hexec, hdg]
  refine ma_sem (k := kA1) (kI := kI1) (cI := cJ) (c0 := c0) X.here.top hg1 (by no_record) hstack q1 (by rw [eA]; exact hdA) q2 (by rw [eI]; exact hdI) lim byt room.1 room.2 (fun d' acts' => ?_)
  simp [jvm, XG.here.top]
  exact st
end MB
