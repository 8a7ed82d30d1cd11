/-! THE ABSTRACT MACHINE: addresses are pairs of numbers, a memory is a map of them; zV is a judgement over it, and its rows stand on the kit's rows of W -/
abbrev zAd : Type := Nat × Nat
abbrev zVal : Type := Int32 ⊕ Int64 ⊕ Option zAd
abbrev zi (x : Int32) : zVal := .inl x
abbrev zl (x : Int64) : zVal := .inr (.inl x)
abbrev zr (a : zAd) : zVal := .inr (.inr (some a))
abbrev zn : zVal := .inr (.inr none)
abbrev zArr : Type := Nat × ((Nat → Int32) ⊕ (Nat → Int64) ⊕ (Nat → Option zAd))
abbrev zE : Type := (Nat × zArr) ⊕ (Nat × List zVal)
abbrev zM : Type := zAd → Option zE
abbrev zLs : Type := Nat → Option zVal
abbrev zY : Type := MethodName × ByteArray × Nat × Option FieldType
/-- the tables' numbers: of classes and slots, of array classes; the first new address; the literals' addresses; the script's address, length, numbers -/
abbrev zG : Type := va_G × (Nat → ClassId) × Nat × (Nat → Nat) × (Nat × Nat × (Nat → Int32))
def zc (θ : zAd → Nat) : zVal → Value
  | .inl x => .int x
  | .inr (.inl x) => .long x
  | .inr (.inr none) => .null
  | .inr (.inr (some a)) => .ref (θ a)
def zcA (θ : zAd → Nat) : zArr → vp_A
  | (n, .inl f) => (n, .inl f)
  | (n, .inr (.inl f)) => (n, .inr (.inl f))
  | (n, .inr (.inr f)) => (n, .inr (.inr (.inr (.inr fun i => (f i).map θ))))
def zcE (θ : zAd → Nat) (dA : Nat → ClassId) : zE → va_E
  | .inl (t, x) => .inl (dA t, zcA θ x)
  | .inr (ci, fs) => .inr (ci, fs.map (zc θ))
def zupd (M : zM) (a : zAd) (e : zE) : zM := fun x => if x = a then some e else M x
def zset (ls : zLs) (i : Nat) (v : zVal) : zLs := fun j => if j = i then some v else if j + 1 = i then (match ls j with | some (.inr (.inl _)) => none | w => w) else ls j
def zsetL (ls : zLs) (i : Nat) (v : zVal) : zLs := fun j => if j = i then some v else if j = i + 1 then none else if j + 1 = i then (match ls j with | some (.inr (.inl _)) => none | w => w) else ls j
def okV (M : zM) : zVal → Prop
  | .inr (.inr (some a)) => a.1 = 0 ∨ M a ≠ none
  | _ => True
def okA (M : zM) : zArr → Prop
  | (n, .inr (.inr f)) => ∀ i a, i < n → f i = some a → M a ≠ none
  | _ => True
def okE (M : zM) : zE → Prop
  | .inl (_, x) => okA M x
  | .inr (_, fs) => ∀ v ∈ fs, okV M v
def okS (M : zM) (st : List zVal) : Prop := ∀ v ∈ st, okV M v
def zDom (M M' : zM) : Prop := ∀ a, M a ≠ none → M' a ≠ none
def zExt (θ0 : zAd → Nat) (M0 : zM) (θ : zAd → Nat) (M : zM) : Prop := zDom M0 M ∧ ∀ a, (a.1 = 0 ∨ M0 a ≠ none) → θ a = θ0 a
def zTyL (dA : Nat → ClassId) : List (ClassId × FieldType) := [(dA 0, .int), (dA 1, .long), (dA 2, .byte), (dA 3, .boolean), (dA 4, .object "ToolCrib$Edge"), (dA 5, .object "ToolCrib$Tool"), (dA 6, .object "ToolCrib$Machine"), (dA 7, .object "ToolCrib$Text"), (dA 8, .object "ToolCrib$Sheet"), (dA 9, .array .int)]
def zTW : List Cond := lw_tbl.filter goodWord
theorem zTW_good : GoodIn zTW zTW := fun _ hw => ⟨hw, good_of_word (List.mem_filter.mp hw).2⟩
theorem zTW_of {w : Cond} {i : Nat} (h : lw_tbl[i]? = some w) (hg : goodWord w = true) : w ∈ zTW := List.mem_filter.mpr ⟨List.mem_of_getElem? h, hg⟩
def zNest : List (String × Nat × MethodName × String) := [("ToolCrib", 41, yX4_init, "ToolCrib"), ("ToolCrib", 55, yX7_init, "ToolCrib"), ("ToolCrib", 71, yX6_init, "ToolCrib"), ("ToolCrib", 80, yX8_init, "ToolCrib"), ("ToolCrib", 81, yX5_init, "ToolCrib"), ("ToolCrib$Edge", 50, yX10_wearOf, "ToolCrib")]
def zAO : List String := ["ToolCrib$Edge", "ToolCrib$Tool", "ToolCrib$Machine", "ToolCrib$Text", "ToolCrib$Sheet"]
/-- the literals: class, entry, text, number -/
def zStrs : List (String × Nat × String × Nat) := [("ToolCrib", 82, "worn life < cuts ; broken 500 < cuts * speed ; check reading = nominal ;", 0), ("ToolCrib$Tape", 64, "cuts", 1), ("ToolCrib$Tape", 72, "speed", 2), ("ToolCrib$Tape", 74, "stuff", 3), ("ToolCrib$Tape", 76, "life", 4), ("ToolCrib$Tape", 78, "reading", 5), ("ToolCrib$Tape", 80, "nominal", 6), ("ToolCrib$Tape", 82, "worn", 7), ("ToolCrib$Tape", 84, "broken", 8), ("ToolCrib$Tape", 86, "check", 9), ("ToolCrib$Tape", 88, "or", 10), ("ToolCrib$Tape", 90, "and", 11), ("ToolCrib$Tape", 92, "not", 12)]
def zByt : List (List Int32) := [
  [119,111,114,110,32,108,105,102,101,32,60,32,99,117,116,115,32,59,32,98,114,111,107,101,110,32,53,48,48,32,60,32,99,117,116,115,32,42,32,115,112,101,101,100,32,59,32,99,104,101,99,107,32,114,101,97,100,105,110,103,32,61,32,110,111,109,105,110,97,108,32,59],
  [99,117,116,115], [115,112,101,101,100], [115,116,117,102,102], [108,105,102,101], [114,101,97,100,105,110,103], [110,111,109,105,110,97,108], [119,111,114,110], [98,114,111,107,101,110], [99,104,101,99,107], [111,114], [97,110,100], [110,111,116]]
def zLen : List Nat := [72, 4, 5, 5, 4, 7, 7, 4, 6, 5, 2, 3, 3]
def zAOA (U : State) : Prop := (Cond.arrayOver (.array .int)).before #[] U = true
def zA (G : zG) : Nat → Prop := fun q => G.2.2.1 ≤ q
def zK (G : zG) (U : State) : Prop := va_K G.1 vwCl (zTyL G.2.1) U ∧ (∀ q ∈ zNest, va_Nw (.methodLinkNest q.1 q.2.1 q.2.2.1 q.2.2.2) U) ∧ (∀ C ∈ zAO, va_AO C U) ∧ zAOA U ∧ (∀ q ∈ zStrs, vk_R q.1 q.2.1 q.2.2.1 (G.2.2.2.1 q.2.2.2) U)
def zS (G : zG) (U : State) (H : Heap) : Prop := vk_S 13 zLen zByt G.2.2.2.1 (fun i => G.2.2.2.1 (100 + i)) (zA G) U H ∧ va_Z "java/lang/String" "COMPACT_STRINGS" "Z" (.int 1) (zA G) U H ∧ va_Zq "jdk/internal/util/Preconditions" "SIOOBE_FORMATTER" "Ljava/util/function/BiFunction;" (zA G) U H ∧ va_X G.2.2.2.2.1 G.2.2.2.2.2.1 G.2.2.2.2.2.2 U H ∧ G.2.2.2.2.1 < H.size ∧ ¬ zA G G.2.2.2.2.1
theorem zS.moved {G : zG} {u U : State} {H : Heap} (hvm : u.vm.Alike U.vm) (h : zS G u H) : zS G U H := ⟨vk_S.moved hvm h.1, va_Z.moved hvm h.2.1, va_Zq.moved hvm h.2.2.1, va_X.moved hvm h.2.2.2.1, h.2.2.2.2⟩
theorem zS.kept {G : zG} {U : State} {H H1 : Heap} (h : zS G U H) (hz : H.size ≤ H1.size) (hq : ∀ a : Nat, a < H.size → ¬ zA G a → H1[a]? = H[a]?) : zS G U H1 := ⟨h.1.kept hq, h.2.1.kept hq, h.2.2.1.kept hq, h.2.2.2.1.kept (hq _ h.2.2.2.2.1 h.2.2.2.2.2), Nat.lt_of_lt_of_le h.2.2.2.2.1 hz, h.2.2.2.2.2⟩
/-- a cell stands in the heap; at kind 1 it is the script -/
def zAt (G : zG) (θ : zAd → Nat) (a : zAd) (e : zE) (H : Heap) : Prop := if a.1 = 1 then e = .inl (0, G.2.2.2.2.2.1, .inl G.2.2.2.2.2.2) ∧ θ a = G.2.2.2.2.1 ∧ G.2.2.2.2.1 < G.2.2.1 else va_at G.1 vwCl (θ a, zcE θ G.2.1 e) H
def zR (G : zG) (θ : zAd → Nat) (M : zM) (H : Heap) : Prop :=
  (∀ a e, M a = some e → zAt G θ a e H ∧ okE M e ∧ (2 ≤ a.1 → zA G (θ a))) ∧ (∀ a a', M a ≠ none → M a' ≠ none → θ a = θ a' → a = a') ∧ (∀ i, θ (0, i) = G.2.2.2.1 i)
def zRm (fr cm sm : Nat) : Room := { frames := fr, cells := cm, slots := sm, locals := 41 * fr }
def zX (G : zG) (y : zY) (p : Program) (s : State) (m : MethodId) (args : Array Value) (meth : Method) (c : Code) : Prop :=
  p.tables.exec = Jvm.exec ∧ c.code = y.2.1 ∧ c.maxLocals = y.2.2.1 ∧ meth.sig.returnType = y.2.2.2 ∧ s.vm.findClass y.1.cls = some m.cls ∧ (y.1.name = "<init>" → meth.name = "<init>") ∧ (∀ w ∈ zTW, w.before args s = true) ∧ meth.locks = false ∧ zK G s ∧ zS G s s.heap ∧ G.2.2.1 ≤ s.heap.size
def zLr (θ : zAd → Nat) (M : zM) (ls : zLs) (lsA : Array Slot) (n : Nat) : Prop := lsA.size = n ∧ lv_wf lsA ∧ ∀ i v, ls i = some v → lsA[i]? = some (.val (zc θ v)) ∧ okV M v
def zQc (G : zG) (θ : zAd → Nat) (M : zM) (r : Option zVal) (M' : zM) : Array Value → State → Outcome → State → Prop := fun _ st o t =>
  ∃ θ', zExt θ M θ' M' ∧ o = .returned (r.map (zc θ')) ∧ zR G θ' M' t.heap ∧ (∀ v, r = some v → okV M' v) ∧ va_F (zA G) st t
/-- all that a place of a run stands on -/
def zPre (y : zY) (fr cm sm : Nat) (ls : zLs) (st : List zVal) (M : zM) (G : zG) (p : Program) (s : State) (m : MethodId) (args : Array Value) (meth : Method) (c : Code) (H : Heap) (locs : List Loc) (cells slots : Nat) (θ0 : zAd → Nat) (M0 : zM) (θ : zAd → Nat) (lsA : Array Slot) (R : Room) : Prop :=
  zX G y p s m args meth c ∧ (fr ≤ R.frames ∧ 41 * fr ≤ R.locals ∧ cells + cm ≤ R.cells ∧ slots + sm ≤ R.slots) ∧ va_S (zA G) s.heap H locs ∧ zExt θ0 M0 θ M ∧ zR G θ M H ∧ zLr θ M ls lsA y.2.2.1 ∧ okS M st
def zT (y : zY) (fr cm sm pc : Nat) (ls : zLs) (st : List zVal) (M : zM) (r : Option zVal) (M' : zM) : Prop :=
  ∀ {G : zG} {p : Program} {l : Launch} {e : Env} {s : State} {m : MethodId} {args : Array Value} {below : List Frame} {meth : Method} {c : Code} {H : Heap} {locs : List Loc} {cells slots : Nat} {θ0 : zAd → Nat} {M0 : zM} {θ : zAd → Nat} {lsA : Array Slot} {R : Room},
    zPre y fr cm sm ls st M G p s m args meth c H locs cells slots θ0 M0 θ lsA R →
    W p l e R s m args below meth c H locs cells slots (MQ below (zQc G θ0 M0 r M') args s (cells + cm) (slots + sm) (zA G)) (F0 m pc lsA (st.map (zc θ)))
def zV (y : zY) (fr cm sm pc : Nat) (ls : zLs) (st : List zVal) (M : zM) (Q : Option zVal → zM → Prop) : Prop := ∃ r M', Q r M' ∧ zT y fr cm sm pc ls st M r M'
abbrev zws (y : zY) : List Cond := Cond.code y.1 y.2.1 y.2.2.1 y.2.2.2 :: zTW
def zCt (y : zY) (fr cm sm : Nat) (As : List zVal) (M : zM) (r : Option zVal) (M' : zM) : Prop :=
  ∀ (G : zG) (l : Launch) (θ : zAd → Nat), okS M As → Met l y.1 (zws y) (zRm fr cm sm) (va_Pc (As.map (zc θ)) (fun U => zK G U ∧ zS G U U.heap ∧ zR G θ M U.heap ∧ G.2.2.1 ≤ U.heap.size)) (zQc G θ M r M') cm sm (zA G)
/-- a contract: from the memory M the method comes back, and Q holds of its answer and of the memory then -/
def zC (y : zY) (fr cm sm : Nat) (As : List zVal) (M : zM) (Q : Option zVal → zM → Prop) : Prop := ∃ r M', Q r M' ∧ zCt y fr cm sm As M r M'
theorem zV.mono {y : zY} {fr cm sm pc : Nat} {ls : zLs} {st : List zVal} {M : zM} {Q Q' : Option zVal → zM → Prop} (h : zV y fr cm sm pc ls st M Q) (hq : ∀ r M', Q r M' → Q' r M') : zV y fr cm sm pc ls st M Q' := by
  obtain ⟨r, M', h1, h2⟩ := h
  exact ⟨r, M', hq _ _ h1, h2⟩
theorem zC.mono {y : zY} {fr cm sm : Nat} {As : List zVal} {M : zM} {Q Q' : Option zVal → zM → Prop} (h : zC y fr cm sm As M Q) (hq : ∀ r M', Q r M' → Q' r M') : zC y fr cm sm As M Q' := by
  obtain ⟨r, M', h1, h2⟩ := h
  exact ⟨r, M', hq _ _ h1, h2⟩
theorem okV.up {M M' : zM} (h : zDom M M') {v : zVal} (hv : okV M v) : okV M' v := by
  match v, hv with
  | .inl _, _ => trivial
  | .inr (.inl _), _ => trivial
  | .inr (.inr none), _ => trivial
  | .inr (.inr (some a)), hv => exact hv.imp id (h a)
theorem okE.up {M M' : zM} (h : zDom M M') {e : zE} (he : okE M e) : okE M' e := by
  match e, he with
  | .inl (_, _, .inl _), _ => trivial
  | .inl (_, _, .inr (.inl _)), _ => trivial
  | .inl (_, _, .inr (.inr f)), he => exact fun i a hi ha => h a (he i a hi ha)
  | .inr (_, fs), he => exact fun v hv => (he v hv).up h
theorem okS.up {M M' : zM} (h : zDom M M') {st : List zVal} (hs : okS M st) : okS M' st := fun v hv => (hs v hv).up h
theorem okS.nil {M : zM} : okS M [] := fun _ h => absurd h List.not_mem_nil
theorem okS.c {M : zM} {v : zVal} {st : List zVal} (hv : okV M v) (hs : okS M st) : okS M (v :: st) := List.forall_mem_cons.mpr ⟨hv, hs⟩
theorem okS.t {M : zM} {v : zVal} {st : List zVal} (hs : okS M (v :: st)) : okS M st := (List.forall_mem_cons.mp hs).2
theorem okS.h {M : zM} {v : zVal} {st : List zVal} (hs : okS M (v :: st)) : okV M v := (List.forall_mem_cons.mp hs).1
theorem zDom.rf {M : zM} : zDom M M := fun _ h => h
theorem zDom.upd {M : zM} {a : zAd} {e : zE} : zDom M (zupd M a e) := fun x h => by
  unfold zupd
  split
  · exact fun q => by cases q
  · exact h
theorem zExt.rf {θ : zAd → Nat} {M : zM} : zExt θ M θ M := ⟨zDom.rf, fun _ _ => rfl⟩
theorem zExt.tr {θ0 θ1 θ2 : zAd → Nat} {M0 M1 M2 : zM} (h : zExt θ0 M0 θ1 M1) (h2 : zExt θ1 M1 θ2 M2) : zExt θ0 M0 θ2 M2 :=
  ⟨fun a x => h2.1 a (h.1 a x), fun a x => (h2.2 a (x.imp id (h.1 a))).trans (h.2 a x)⟩
theorem zc.ext {θ0 θ1 : zAd → Nat} {M0 M1 : zM} (h : zExt θ0 M0 θ1 M1) {v : zVal} (hv : okV M0 v) : zc θ1 v = zc θ0 v := by
  match v, hv with
  | .inl _, _ => rfl
  | .inr (.inl _), _ => rfl
  | .inr (.inr none), _ => rfl
  | .inr (.inr (some a)), hv => exact congrArg Value.ref (h.2 a hv)
theorem zc.exts {θ0 θ1 : zAd → Nat} {M0 M1 : zM} (h : zExt θ0 M0 θ1 M1) {st : List zVal} (hs : okS M0 st) : st.map (zc θ1) = st.map (zc θ0) := List.map_congr_left fun v hv => zc.ext h (hs v hv)
theorem zcE.at {D : va_G} {dA : Nat → ClassId} {θ0 θ1 : zAd → Nat} {M0 M1 : zM} (h : zExt θ0 M0 θ1 M1) {e : zE} (he : okE M0 e) {H : Heap} {a : Nat} (ha : va_at D vwCl (a, zcE θ0 dA e) H) : va_at D vwCl (a, zcE θ1 dA e) H := by
  match e, he, ha with
  | .inl (_, _, .inl _), _, ha => exact ha
  | .inl (_, _, .inr (.inl _)), _, ha => exact ha
  | .inl (t, n, .inr (.inr f)), he, ha =>
    have e1 : arrV (dA t) n (fun j => va_rf ((f j).map θ1)) = arrV (dA t) n (fun j => va_rf ((f j).map θ0)) := by
      unfold arrV
      congr 2
      funext j
      cases hf : f j.val with
      | none => simp [hf]
      | some x => simp [hf, h.2 x (Or.inr (he j.val x j.isLt hf))]
    exact Eq.trans ha (congrArg some e1.symm)
  | .inr (ci, fs), he, ha =>
    have e1 : fs.map (zc θ1) = fs.map (zc θ0) := zc.exts (st := fs) h he
    show va_at D vwCl (a, .inr (ci, fs.map (zc θ1))) H
    rw [e1]
    exact ha
theorem zLr.ext {θ0 θ1 : zAd → Nat} {M0 M1 : zM} (h : zExt θ0 M0 θ1 M1) {ls : zLs} {lsA : Array Slot} {n : Nat} (hl : zLr θ0 M0 ls lsA n) : zLr θ1 M1 ls lsA n :=
  ⟨hl.1, hl.2.1, fun i v hv => ⟨by rw [zc.ext h (hl.2.2 i v hv).2]; exact (hl.2.2 i v hv).1, (hl.2.2 i v hv).2.up h.1⟩⟩
theorem zAt.g {G : zG} {θ : zAd → Nat} {a : zAd} {e : zE} {H : Heap} (h : zAt G θ a e H) (h1 : a.1 ≠ 1) : va_at G.1 vwCl (θ a, zcE θ G.2.1 e) H := by
  unfold zAt at h
  rwa [if_neg h1] at h
theorem zAt.of {G : zG} {θ : zAd → Nat} {a : zAd} {e : zE} {H : Heap} (h1 : a.1 ≠ 1) (h : va_at G.1 vwCl (θ a, zcE θ G.2.1 e) H) : zAt G θ a e H := by
  unfold zAt
  rwa [if_neg h1]
theorem zAt.s {G : zG} {θ : zAd → Nat} {a : zAd} {e : zE} {H : Heap} (h : zAt G θ a e H) (h1 : a.1 = 1) : e = .inl (0, G.2.2.2.2.2.1, .inl G.2.2.2.2.2.2) ∧ θ a = G.2.2.2.2.1 ∧ G.2.2.2.2.1 < G.2.2.1 := by
  unfold zAt at h
  rwa [if_pos h1] at h
theorem zAt.kept {G : zG} {θ : zAd → Nat} {a : zAd} {e : zE} {H H1 : Heap} (h : zAt G θ a e H) (hq : H1[θ a]? = H[θ a]?) : zAt G θ a e H1 := by
  by_cases h1 : a.1 = 1
  · have h2 := h.s h1
    unfold zAt
    rwa [if_pos h1]
  · exact zAt.of h1 ((h.g h1).kept hq)
theorem zAt.lt {G : zG} {θ : zAd → Nat} {a : zAd} {e : zE} {H : Heap} (h : zAt G θ a e H) (hb : G.2.2.1 ≤ H.size) : θ a < H.size := by
  by_cases h1 : a.1 = 1
  · have h2 := h.s h1
    omega
  · exact (h.g h1).lt
theorem zAt.ext {G : zG} {θ0 θ1 : zAd → Nat} {M0 M1 : zM} (hE : zExt θ0 M0 θ1 M1) {a : zAd} {e : zE} {H : Heap} (ha : M0 a ≠ none) (he : okE M0 e) (h : zAt G θ0 a e H) : zAt G θ1 a e H := by
  have e9 := hE.2 a (Or.inr ha)
  by_cases h1 : a.1 = 1
  · have h2 := h.s h1
    unfold zAt
    rw [if_pos h1, e9]
    exact h2
  · refine zAt.of h1 ?_
    rw [e9]
    exact zcE.at hE he (h.g h1)
theorem zR.g {G : zG} {θ : zAd → Nat} {M : zM} {H : Heap} {a : zAd} {e : zE} (h : zR G θ M H) (ha : M a = some e) (h1 : a.1 ≠ 1 ∨ ∀ n f, e ≠ .inl (0, n, .inl f)) : va_at G.1 vwCl (θ a, zcE θ G.2.1 e) H := by
  have h2 := (h.1 a e ha).1
  by_cases q : a.1 = 1
  · rcases h1 with z | z
    · exact absurd q z
    · exact absurd (h2.s q).1 (z _ _)
  · exact h2.g q
theorem zR.set {G : zG} {θ : zAd → Nat} {M : zM} {H H1 : Heap} {a : zAd} {e0 e1 : zE} (h : zR G θ M H) (ha : M a = some e0) (h21 : 2 ≤ a.1) (h1 : va_at G.1 vwCl (θ a, zcE θ G.2.1 e1) H1) (ho : ∀ q : Nat, q ≠ θ a → H1[q]? = H[q]?) (hk : okE M e1) : zR G θ (zupd M a e1) H1 := by
  have hne : ∀ x, zupd M a e1 x ≠ none → M x ≠ none := fun x hx => by
    unfold zupd at hx
    split at hx
    · next q => rw [q, ha]; exact fun z => by cases z
    · exact hx
  have ham : M a ≠ none := by rw [ha]; exact fun z => by cases z
  refine ⟨fun x e hx => ?_, fun x x' hx hx' => h.2.1 x x' (hne x hx) (hne x' hx'), h.2.2⟩
  by_cases q : x = a
  · subst q
    have : e = e1 := by unfold zupd at hx; rw [if_pos rfl] at hx; exact (Option.some.inj hx).symm
    subst this
    exact ⟨zAt.of (by omega) h1, hk.up zDom.upd, (h.1 x e0 ha).2.2⟩
  · have hx2 : M x = some e := by unfold zupd at hx; rw [if_neg q] at hx; exact hx
    obtain ⟨g1, g2, g3⟩ := h.1 x e hx2
    have hxm : M x ≠ none := by rw [hx2]; exact fun z => by cases z
    exact ⟨g1.kept (ho _ (fun z => q (h.2.1 x a hxm ham z))), g2.up zDom.upd, g3⟩
theorem zR.new {G : zG} {θ : zAd → Nat} {M : zM} {H H1 : Heap} {a : zAd} {e1 : zE} (h : zR G θ M H) (ha : M a = none) (h2 : 2 ≤ a.1) (hb : G.2.2.1 ≤ H.size) (h1 : va_at G.1 vwCl (H.size, zcE (fun x => if x = a then H.size else θ x) G.2.1 e1) H1) (ho : ∀ q : Nat, q < H.size → H1[q]? = H[q]?) (hk : okE (zupd M a e1) e1) :
    zR G (fun x => if x = a then H.size else θ x) (zupd M a e1) H1 ∧ zExt θ M (fun x => if x = a then H.size else θ x) (zupd M a e1) := by
  have hE : zExt θ M (fun x => if x = a then H.size else θ x) (zupd M a e1) := by
    refine ⟨zDom.upd, fun x hx => ?_⟩
    show (if x = a then H.size else θ x) = θ x
    rw [if_neg]
    intro q
    subst q
    rcases hx with hx | hx
    · omega
    · exact hx ha
  have hlt : ∀ x, M x ≠ none → θ x < H.size := fun x hx => by
    cases hm : M x with
    | none => exact absurd hm hx
    | some e => exact (h.1 x e hm).1.lt hb
  refine ⟨⟨fun x e hx => ?_, fun x x' hx hx' hq => ?_, fun i => ?_⟩, hE⟩
  · by_cases q : x = a
    · subst q
      have : e = e1 := by unfold zupd at hx; rw [if_pos rfl] at hx; exact (Option.some.inj hx).symm
      subst this
      refine ⟨zAt.of (by omega) ?_, hk, fun _ => ?_⟩
      · show va_at G.1 vwCl ((if x = x then H.size else θ x), _) H1
        rw [if_pos rfl]
        exact h1
      · show G.2.2.1 ≤ (if x = x then H.size else θ x)
        rw [if_pos rfl]
        exact hb
    · have hx2 : M x = some e := by unfold zupd at hx; rw [if_neg q] at hx; exact hx
      obtain ⟨g1, g2, g3⟩ := h.1 x e hx2
      have e9 : (if x = a then H.size else θ x) = θ x := if_neg q
      have hxm : M x ≠ none := by rw [hx2]; exact fun z => by cases z
      refine ⟨(zAt.ext hE hxm g2 g1).kept ?_, g2.up zDom.upd, fun z => ?_⟩
      · show H1[(if x = a then H.size else θ x)]? = H[(if x = a then H.size else θ x)]?
        rw [e9]
        exact ho _ (g1.lt hb)
      · show G.2.2.1 ≤ (if x = a then H.size else θ x)
        rw [e9]
        exact g3 z
  · have go : ∀ z, zupd M a e1 z ≠ none → z ≠ a → M z ≠ none := fun z hz q => by unfold zupd at hz; rw [if_neg q] at hz; exact hz
    by_cases q : x = a <;> by_cases q' : x' = a
    · rw [q, q']
    · have e2 : (if x' = a then H.size else θ x') = θ x' := if_neg q'
      have e1' : (if x = a then H.size else θ x) = H.size := if_pos q
      have hq2 : H.size = θ x' := e1'.symm.trans (Eq.trans hq e2)
      have := hlt x' (go x' hx' q')
      omega
    · have e2 : (if x' = a then H.size else θ x') = H.size := if_pos q'
      have e1' : (if x = a then H.size else θ x) = θ x := if_neg q
      have hq2 : θ x = H.size := e1'.symm.trans (Eq.trans hq e2)
      have := hlt x (go x hx q)
      omega
    · have e2 : (if x' = a then H.size else θ x') = θ x' := if_neg q'
      have e1' : (if x = a then H.size else θ x) = θ x := if_neg q
      exact h.2.1 x x' (go x hx q) (go x' hx' q') (e1'.symm.trans (Eq.trans hq e2))
  · show (if ((0, i) : zAd) = a then H.size else θ (0, i)) = _
    rw [if_neg (fun q => by rw [← q] at h2; simp at h2)]
    exact h.2.2 i
