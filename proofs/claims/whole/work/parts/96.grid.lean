/-! a grid of ints, 10 rows of 6, made at one stroke: told as if the outer row were made at once as it ends, and the rows pushed behind it; a store into the outer row between comes to the same state -/
def maO (cA : ClassId) (h i : Nat) : Cell := arrV cA 10 (fun j => if j < i then .ref (h + 1 + j) else .null)
def maI (cI : ClassId) : Cell := arrV cI 6 (fun _ => .int 0)
theorem maO_s {cA : ClassId} {h i : Nat} : (maO cA h i).setSlot i (.ref (h + 1 + i)) = maO cA h (i + 1) := by
  unfold maO
  rw [arrV_store]
  congr 1
  funext j
  unfold updV
  show (if j = i then Value.ref (h + 1 + i) else if j < i then Value.ref (h + 1 + j) else Value.null) = if j < i + 1 then Value.ref (h + 1 + j) else Value.null
  by_cases q : j = i
  · rw [if_pos q, if_pos (by omega), q]
  · rw [if_neg q]
    by_cases q2 : j < i
    · rw [if_pos q2, if_pos (by omega)]
    · rw [if_neg q2, if_neg (by omega)]
section MP
variable {cI cA : ClassId} {T : State} {X : Cell}
/-- a cell, and n rows of 6 behind it -/
def maP (cI : ClassId) (T : State) (X : Cell) : Nat → State
  | 0 => T.pushCell X
  | n + 1 => (maP cI T X n).pushCell (maI cI)
theorem maI_n : (maI cI).slots.size = 6 := arrV_size _ _ _
theorem maP_n : ∀ n, (maP cI T X n).heap.size = T.heap.size + (n + 1)
  | 0 => State.heap_size_pushCell _ _
  | n + 1 => by
    have h := maP_n n
    show ((maP cI T X n).pushCell (maI cI)).heap.size = _
    rw [State.heap_size_pushCell, h]
    rfl
theorem maP_u : ∀ n, (maP cI T X n).slotsUsed = T.slotsUsed + (X.slots.size + 6 * n)
  | 0 => rfl
  | n + 1 => by
    have h := maP_u n
    show (maP cI T X n).slotsUsed + (maI cI).slots.size = _
    rw [maI_n, h]
    omega
theorem maP_v : ∀ n, (maP cI T X n).vm = T.vm
  | 0 => rfl
  | n + 1 => maP_v n
theorem maP_j : ∀ n, (maP cI T X n).topJava? = T.topJava?
  | 0 => rfl
  | n + 1 => maP_j n
theorem maP_b {q : Nat} (hq : q ≤ T.heap.size) : ∀ n, (maP cI T X n).heap[q]? = (T.pushCell X).heap[q]?
  | 0 => rfl
  | n + 1 => by
    have h := maP_n (cI := cI) (T := T) (X := X) n
    refine Eq.trans ?_ (maP_b hq n)
    show ((maP cI T X n).pushCell (maI cI)).heap[q]? = _
    rw [State.heap_pushCell_of_lt (h := show q < (maP cI T X n).heap.size by omega)]
theorem ma_swap {a : Nat} {Y Z : Cell} (ha : a < T.heap.size) : (T.pushCell Y).setCell a Z = (T.setCell a Z).pushCell Y := by
  have e : (T.heap.push Y).setIfInBounds a Z = (T.heap.setIfInBounds a Z).push Y := by
    refine Array.ext_getElem? (fun j => ?_)
    rw [Array.getElem?_setIfInBounds, Array.getElem?_push, Array.getElem?_push, Array.getElem?_setIfInBounds, Array.size_setIfInBounds]
    by_cases q : a = j
    · subst q
      simp [ha, Nat.ne_of_lt ha, Nat.lt_succ_of_lt ha]
    · simp [q]
  simp only [State.pushCell, State.setCell, e]
theorem maP_set {Z : Cell} (h : Z.slots.size = X.slots.size) : ∀ n, (maP cI T X n).setCell T.heap.size Z = maP cI T Z n
  | 0 => State.setCell_pushCell _ _ _ h
  | n + 1 => by
    have hn := maP_n (cI := cI) (T := T) (X := X) n
    refine (ma_swap (by omega)).trans ?_
    rw [maP_set h n]
    rfl
theorem maP_top {g : JFrame} : ∀ n, maP cI (T.setTop g) X n = (maP cI T X n).setTop g
  | 0 => rfl
  | n + 1 => congrArg (fun U : State => U.pushCell (maI cI)) (maP_top n)
end MP
/-- the machine behind i of the rows -/
def maS (cA cI : ClassId) (T : State) (i : Nat) : State := maP cI T (maO cA T.heap.size i) i
theorem maO_n {cA : ClassId} {h i : Nat} : (maO cA h i).slots.size = 10 := arrV_size _ _ _
theorem maS_next {cA cI : ClassId} {T : State} {i : Nat} : ((maS cA cI T i).pushCell (maI cI)).setCell T.heap.size (maO cA T.heap.size (i + 1)) = maS cA cI T (i + 1) :=
  maP_set (X := maO cA T.heap.size i) (maO_n.trans maO_n.symm) (i + 1)
theorem maS_old (cA cI : ClassId) (T : State) {q : Nat} (hq : q < T.heap.size) (i : Nat) : (maS cA cI T i).heap[q]? = T.heap[q]? :=
  (maP_b (Nat.le_of_lt hq) i).trans (State.heap_pushCell_of_lt _ _ hq)
theorem maS_f (cA cI : ClassId) (T : State) (i : Nat) : (maS cA cI T i).heap.size = T.heap.size + 1 + i ∧ (maS cA cI T i).heap[T.heap.size]? = some (maO cA T.heap.size i) ∧ (maS cA cI T i).vm = T.vm ∧ (maS cA cI T i).slotsUsed = T.slotsUsed + 10 + 6 * i := by
  unfold maS
  refine ⟨?_, (maP_b (Nat.le_refl _) i).trans (State.heap_pushCell_size _ _), maP_v i, ?_⟩
  · rw [maP_n]; omega
  · rw [maP_u, maO_n]; omega
theorem maS_top {cA cI : ClassId} {T : State} {g : JFrame} {i : Nat} : maS cA cI (T.setTop g) i = (maS cA cI T i).setTop g := maP_top i
theorem ma_ref {t : FieldType} (h : t.isReference = true) : fits t .null = true ∧ ∀ a, fits t (.ref a) = true := by
  cases t <;> first | exact ⟨rfl, fun _ => rfl⟩ | (simp [FieldType.isReference] at h)
section MA
variable {E : CtlPost} {e : Env} {d : Bool} {acts : List Action}
theorem ma_arr {S : State} {cA comp : ClassId} {k : Class} {ty : FieldType} {N : Nat} {v : Value} (hk : S.vm.classes[cA]? = some k) (hkd : k.kind = .array comp ty) (hl : ¬ N > e.platform.arrayLengthLimit) (hb : ¬ N * componentBytes ty > e.platform.maxHeapBytes) (hf : fits ty v = true) (hd : v.isDefault = true)
    (h1 : S.heap.size < e.platform.maxCells) (h2 : S.slotsUsed + N ≤ e.platform.maxSlots) {Q : Addr → Pre} (kk : Q S.heap.size d acts (S.pushCell (arrV cA N fun _ => v))) : wp (Jvm.newArray cA N v) Q E e d acts S := by
  rw [← arrV_new] at kk
  have hfit : ∀ i x, (Array.replicate N v)[i]? = some x → S.fitsSlot cA .none i x = true := fun i x hx => by
    rw [Array.getElem?_replicate] at hx
    by_cases q : i < N
    · rw [if_pos q] at hx
      cases hx
      simp [State.fitsSlot, State.slotType?, hk, hkd, hf]
    · rw [if_neg q] at hx; cases hx
  have hact : allocActs (Array.replicate N v) S.heap.size acts = acts := by
    unfold allocActs
    refine if_pos ?_
    rw [Array.all_replicate]
    by_cases q : N = 0 <;> simp [q, hd]
  have hN : ¬ N > e.platform.maxSlots := by omega
  simp only [Jvm.newArray, Jvm.arrayFits, wp_bind', wp_pure', W.ask, W.ite, W.theClass, W.alloc, W.stop, hk, hkd, hl, hb, hN, if_false, Option.some.injEq, exists_eq_left', Array.size_replicate, hact]
  exact ⟨h1, h2, hfit, kk⟩
theorem ma_in {S : State} {cI c0 : ClassId} {k : Class} (hk : S.vm.classes[cI]? = some k) (hkd : k.kind = .array c0 .int) (hl : ¬ 6 > e.platform.arrayLengthLimit) (hb : ¬ 24 > e.platform.maxHeapBytes) (h1 : S.heap.size < e.platform.maxCells) (h2 : S.slotsUsed + 6 ≤ e.platform.maxSlots) {Q : Addr → Pre} (kk : Q S.heap.size d acts (S.pushCell (maI cI))) : wp (multianewarray.make cI [6]) Q E e d acts S := by
  rw [multianewarray.make]
  have h6 : ¬ (6 : Int32) < 0 := by decide
  simp only [wp_bind', W.ite, h6, if_false, wp_pure', W.theClass, hk, hkd, Option.some.injEq, exists_eq_left']
  exact ma_arr (N := 6) hk hkd hl hb rfl rfl h1 h2 kk
/-- a loop that takes one of a row of states to the next, ten times -/
theorem ma_loop {f : Nat → PUnit → Sem (ForInStep PUnit)} {st : Nat → State} (hf : ∀ i, i < 10 → ∀ (Q : ForInStep PUnit → Pre) d acts, (∀ d' acts', Q (.yield PUnit.unit) d' acts' (st (i + 1))) → wp (f i PUnit.unit) Q E e d acts (st i)) {Q : PUnit → Pre} (hq : ∀ d acts, Q PUnit.unit d acts (st 10)) : ∀ k i d acts, i + k = 10 → wp (forIn (List.range' i k 1) PUnit.unit f) Q E e d acts (st i)
  | 0, i, d, acts, h => by
    obtain rfl : i = 10 := h
    exact hq d acts
  | k + 1, i, d, acts, h => by
    rw [List.range'_succ, List.forIn_cons, wp_bind']
    exact hf i (by omega) _ d acts (fun d' acts' => ma_loop hf hq k (i + 1) d' acts' (by omega))
section
variable {cA cI c0 : ClassId} {k kI : Class} {S : State}
theorem ma_out (hk : S.vm.classes[cA]? = some k) (hkd : k.kind = .array cI (.array .int)) (hkI : S.vm.classes[cI]? = some kI) (hkdI : kI.kind = .array c0 .int) (hl : 10 ≤ e.platform.arrayLengthLimit) (hb : 40 ≤ e.platform.maxHeapBytes) (h1 : S.heap.size + 11 ≤ e.platform.maxCells) (h2 : S.slotsUsed + 70 ≤ e.platform.maxSlots) {Q : Addr → Pre} (kk : ∀ d' acts', Q S.heap.size d' acts' (maS cA cI S 10)) : wp (multianewarray.make cA [10, 6]) Q E e d acts S := by
  have q1 : ¬ (10 : Int32) < 0 := by decide
  have q2 : ((10 : Int32) == 0) = false := by decide
  rw [multianewarray.make]
  simp only [wp_bind', W.theClass, hk, hkd, Option.some.injEq, exists_eq_left', W.ite, q1, if_false, wp_pure']
  refine ma_arr (N := 10) hk hkd (Nat.not_lt.mpr hl) (Nat.not_lt.mpr hb) rfl rfl (by omega) (by omega) ?_
  simp only [q2, Bool.false_eq_true, if_false, wp_bind']
  rw [Std.Legacy.Range.forIn_eq_forIn_range']
  refine ma_loop (st := maS cA cI S) (fun i hi Q' d' acts' hn => ?_) (fun d' acts' => kk d' acts') 10 0 _ _ rfl
  have f := maS_f cA cI S i
  have lt0 : S.heap.size < (maS cA cI S i).heap.size := by omega
  have eo : ((maS cA cI S i).pushCell (maI cI)).heap[S.heap.size]? = some (maO cA S.heap.size i) := (State.heap_pushCell_of_lt _ _ lt0).trans f.2.1
  rw [wp_bind']
  refine ma_in (by rw [f.2.2.1]; exact hkI) hkdI (by omega) (by omega) (by omega) (by omega) ?_
  rw [wp_bind', W.writeLoc]
  refine ⟨_, eo, by simp [maO, arrV], by rw [maO_n]; exact hi, ?_, ?_⟩
  · have hv : (maS cA cI S i).vm.classes[cA]? = some k := by
      rw [f.2.2.1]; exact hk
    simp [maO, arrV, State.fitsSlot, State.slotType?, hv, hkd, (ma_ref (t := .array .int) rfl).2]
  · rw [f.1, maO_s, maS_next, wp_pure']
    exact hn _ _
/-- the instruction's own words, from the two numbers on the stack to the grid -/
theorem ma_sem {T : State} {g : JFrame} {vm1 : Vm} {index : Nat} {rest : List Value} (hs : T.topJava?.isSome) (hr : (Jvm.resolveClass g.method.cls index).Gives e.toSetting T.vm (.ok cA) vm1) (hz : vm1.classes.size ≤ T.vm.classes.size) (hst : g.stack = .int 6 :: .int 10 :: rest) (hk : vm1.classes[cA]? = some k) (hkd : k.kind = .array cI (.array .int)) (hkI : vm1.classes[cI]? = some kI) (hkdI : kI.kind = .array c0 .int) (hl : 10 ≤ e.platform.arrayLengthLimit) (hb : 40 ≤ e.platform.maxHeapBytes) (h1 : T.heap.size + 11 ≤ e.platform.maxCells) (h2 : T.slotsUsed + 70 ≤ e.platform.maxSlots) {Q : Unit → Pre} (kk : ∀ d' acts', Q () d' acts' ((maS cA cI (T.setVm vm1) 10).setTop { g with stack := .ref T.heap.size :: rest })) : wp (multianewarray.sem index 2) Q E e d acts (T.setTop g) := by
  rw [multianewarray.sem, wp_bind', W.resolveClassAt_links (State.method?_setTop g hs) hr hz, wp_bind']
  refine (popN_top (s := T.setVm vm1) (f := g) (args := [.int 10, .int 6]) hs hst).mpr ?_
  simp only [wp_bind', wp_pure', List.mapM_cons, List.mapM_nil]
  refine ma_out (S := (T.setVm vm1).setTop { g with stack := rest }) hk hkd hkI hkdI hl hb h1 h2 (fun d' acts' => ?_)
  have ht : (maS cA cI (T.setVm vm1) 10).topJava?.isSome := by
    unfold maS
    rw [maP_j]
    exact hs
  rw [maS_top]
  simp only [wp_bind', W.mark, W.pushRef, State.topJava?_setTop' _ ht, Option.some.injEq, exists_eq_left', State.setTop_setTop]
  exact kk _ _
end
end MA
