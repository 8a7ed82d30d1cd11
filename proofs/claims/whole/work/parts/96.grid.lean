/-! a grid of ints, 10 rows of 6, made at one stroke -/
def maO (cA : ClassId) (h i : Nat) : Cell := arrV cA 10 (fun j => if j < i then .ref (h + 1 + j) else .null)
def maI (cI : ClassId) : Cell := arrV cI 6 (fun _ => .int 0)
theorem maO_s {cA : ClassId} {h i : Nat} : (maO cA h i).setSlot i (.ref (h + 1 + i)) = maO cA h (i + 1) := by
  unfold maO
  rw [arrV_store]
  congr 1
  funext j
  unfold updV
  show (if j = i then Value.ref (h + 1 + i) else if j < i then Value.ref (h + 1 + j) else Value.null) = if j < i + 1 then Value.ref (h + 1 + j) else Value.null
  by_cases q : j = i
  · rw [if_pos q, if_pos (by omega), q]
  · rw [if_neg q]
    by_cases q2 : j < i
    · rw [if_pos q2, if_pos (by omega)]
    · rw [if_neg q2, if_neg (by omega)]
/-- the machine behind i of the rows -/
def maS (cA cI : ClassId) (T : State) : Nat → State
  | 0 => T.pushCell (maO cA T.heap.size 0)
  | i + 1 => ((maS cA cI T i).pushCell (maI cI)).setCell T.heap.size (maO cA T.heap.size (i + 1))
theorem maS_f (cA cI : ClassId) (T : State) : ∀ i, (maS cA cI T i).heap.size = T.heap.size + 1 + i ∧ (maS cA cI T i).heap[T.heap.size]? = some (maO cA T.heap.size i) ∧ (maS cA cI T i).vm = T.vm ∧ (maS cA cI T i).slotsUsed = T.slotsUsed + 10 + 6 * i
  | 0 => by
    refine ⟨by simp [maS], by simp [maS], rfl, ?_⟩
    simp [maS, maO, arrV_size]
  | i + 1 => by
    obtain ⟨a1, a2, a3, a4⟩ := maS_f cA cI T i
    have hlt : T.heap.size < (maS cA cI T i).heap.size := by omega
    have hb : ((maS cA cI T i).pushCell (maI cI)).heap[T.heap.size]? = some (maO cA T.heap.size i) := by rw [State.heap_pushCell_of_lt (h := hlt)]; exact a2
    refine ⟨?_, State.heap_setCell_self hb, ?_, ?_⟩
    · simp [maS, State.setCell, a1]; omega
    · simp [maS, a3]
    · simp [maS, a4, maI, arrV_size]; omega
theorem maS_top (cA cI : ClassId) (T : State) (g : JFrame) : ∀ i, maS cA cI (T.setTop g) i = (maS cA cI T i).setTop g
  | 0 => rfl
  | i + 1 => by simp only [maS, maS_top cA cI T g i, State.heap_setTop, State.pushCell_setTop, State.setCell_setTop]
theorem ma_ref {t : FieldType} (h : t.isReference = true) : fits t .null = true ∧ ∀ a, fits t (.ref a) = true := by
  cases t <;> first | exact ⟨rfl, fun _ => rfl⟩ | (simp [FieldType.isReference] at h)
section MA
variable {E : CtlPost} {e : Env} {d : Bool} {acts : List Action}
theorem ma_arr {S : State} {cA comp : ClassId} {k : Class} {ty : FieldType} {N : Nat} {v : Value} (hk : S.vm.classes[cA]? = some k) (hkd : k.kind = .array comp ty) (hl : ¬ N > e.platform.arrayLengthLimit) (hb : ¬ N * componentBytes ty > e.platform.maxHeapBytes) (hf : fits ty v = true) (hd : v.isDefault = true)
    (h1 : S.heap.size < e.platform.maxCells) (h2 : S.slotsUsed + N ≤ e.platform.maxSlots) {Q : Addr → Pre} (kk : Q S.heap.size d acts (S.pushCell (arrV cA N fun _ => v))) : wp (Jvm.newArray cA N v) Q E e d acts S := by
  rw [← arrV_new] at kk
  have hfit : ∀ i x, (Array.replicate N v)[i]? = some x → S.fitsSlot cA .none i x = true := fun i x hx => by
    rw [Array.getElem?_replicate] at hx
    by_cases q : i < N
    · rw [if_pos q] at hx
      cases hx
      simp [State.fitsSlot, State.slotType?, hk, hkd, hf]
    · rw [if_neg q] at hx; cases hx
  have hact : allocActs (Array.replicate N v) S.heap.size acts = acts := by
    unfold allocActs
    refine if_pos ?_
    rw [Array.all_replicate]
    by_cases q : N = 0 <;> simp [q, hd]
  have hN : ¬ N > e.platform.maxSlots := by omega
  simp only [Jvm.newArray, Jvm.arrayFits, wp_bind', wp_pure', W.ask, W.ite, W.theClass, W.alloc, W.stop, hk, hkd, hl, hb, hN, if_false, Option.some.injEq, exists_eq_left', Array.size_replicate, hact]
  exact ⟨h1, h2, hfit, kk⟩
theorem ma_in {S : State} {cI c0 : ClassId} {k : Class} (hk : S.vm.classes[cI]? = some k) (hkd : k.kind = .array c0 .int) (hl : ¬ 6 > e.platform.arrayLengthLimit) (hb : ¬ 24 > e.platform.maxHeapBytes) (h1 : S.heap.size < e.platform.maxCells) (h2 : S.slotsUsed + 6 ≤ e.platform.maxSlots) {Q : Addr → Pre} (kk : Q S.heap.size d acts (S.pushCell (maI cI))) : wp (multianewarray.make cI [6]) Q E e d acts S := by
  rw [multianewarray.make]
  have h6 : ¬ (6 : Int32) < 0 := by decide
  simp only [wp_bind', W.ite, h6, if_false, wp_pure', W.theClass, hk, hkd, Option.some.injEq, exists_eq_left']
  exact ma_arr (N := 6) hk hkd hl hb rfl rfl h1 h2 kk
theorem ma_out {S : State} {cA cI c0 : ClassId} {k kI : Class} (hk : S.vm.classes[cA]? = some k) (hkd : k.kind = .array cI (.array .int)) (hkI : S.vm.classes[cI]? = some kI) (hkdI : kI.kind = .array c0 .int) (hl : ¬ 10 > e.platform.arrayLengthLimit) (hb : ¬ 40 > e.platform.maxHeapBytes) (h1 : S.heap.size + 11 ≤ e.platform.maxCells) (h2 : S.slotsUsed + 70 ≤ e.platform.maxSlots) {Q : Addr → Pre} (kk : ∀ d' acts', Q S.heap.size d' acts' (maS cA cI S 10)) : wp (multianewarray.make cA [10, 6]) Q E e d acts S := by
  rw [multianewarray.make]
  have h10 : ¬ (10 : Int32) < 0 := by decide
  have h100 : ((10 : Int32) == 0) = false := by decide
  simp only [wp_bind', W.ite, h10, if_false, wp_pure', W.theClass, hk, hkd, Option.some.injEq, exists_eq_left']
  refine ma_arr (N := 10) hk hkd hl hb rfl rfl (by omega) (by omega) ?_
  simp only [h100, Bool.false_eq_true, if_false, wp_bind']
  rw [Std.Legacy.Range.forIn_eq_forIn_range']
  show wp (forIn (List.range' 0 10 1) PUnit.unit _) _ E e d acts _
  refine wp_forIn_inv (fun rest S' => ∃ i, i ≤ 10 ∧ rest = List.range' i (10 - i) ∧ S' = maS cA cI S i) _ _ ⟨0, by decide, rfl, rfl⟩ ?_ ?_
  · intro x rest S' d' acts' Q' hI hn
    obtain ⟨i, hi, hl', rfl⟩ := hI
    have hlt : i < 10 := Decidable.byContradiction (fun q => by
      have e0 : 10 - i = 0 := by omega
      rw [e0] at hl'
      cases hl')
    have e1 : 10 - i = (10 - (i + 1)) + 1 := by omega
    rw [e1, List.range'_succ] at hl'
    obtain ⟨rfl, rfl⟩ := List.cons.inj hl'
    obtain ⟨f1, f2, f3, f4⟩ := maS_f cA cI S x
    have hlt0 : S.heap.size < (maS cA cI S x).heap.size := by omega
    simp only [wp_bind']
    refine ma_in (by rw [f3]; exact hkI) hkdI (by omega) (by omega) (by omega) (by omega) ?_
    simp only [wp_bind', W.writeLoc, wp_pure']
    refine ⟨maO cA S.heap.size x, by rw [State.heap_pushCell_of_lt (h := hlt0)]; exact f2, by simp [maO, arrV], by rw [maO, arrV_size]; exact hlt, ?_, hn _ _ _ ⟨x + 1, by omega, rfl, ?_⟩⟩
    · simp [maO, arrV, State.fitsSlot, State.slotType?, f3, hk, hkd, (ma_ref (t := .array .int) rfl).2]
    · rw [f1, maO_s]; rfl
  · intro S' d' acts' hI
    obtain ⟨i, hi, hl', rfl⟩ := hI
    have h9 : i = 10 := Decidable.byContradiction (fun q => by
      rw [show 10 - i = (10 - (i + 1)) + 1 by omega, List.range'_succ] at hl'
      cases hl')
    subst h9
    simp only [wp_pure']
    exact kk _ _
end MA
