/-! calls -/
/-- what the tables say of a method that is called on an object of the class ci -/
def zMv (Y : zY) (ci na : Nat) : Prop := Cond.instanceMethod Y.1 ∈ zTW ∧ Cond.selects Y.1.cls Y.1 Y.1 ∈ zTW ∧ Cond.initialized Y.1.cls ∈ zTW ∧ Cond.code Y.1 Y.2.1 Y.2.2.1 Y.2.2.2 ∈ zTW ∧ (Y.1.cls ≠ "java/lang/invoke/MethodHandle" ∧ Y.1.cls ≠ "java/lang/invoke/VarHandle" ∧ (parseMethodDescriptor Y.1.desc).map (fun d => d.parameters.length) = some na) ∧ Y.2.2.1 ≤ 22 ∧ ∃ T N, vwCl[ci]? = some (Y.1.cls, T, N)
def zMs (Y : zY) (na : Nat) : Prop := Cond.static Y.1 ∈ zTW ∧ Cond.initialized Y.1.cls ∈ zTW ∧ Cond.code Y.1 Y.2.1 Y.2.2.1 Y.2.2.2 ∈ zTW ∧ (Y.1.cls ≠ "java/lang/invoke/MethodHandle" ∧ Y.1.cls ≠ "java/lang/invoke/VarHandle" ∧ (parseMethodDescriptor Y.1.desc).map (fun d => d.parameters.length) = some na) ∧ Y.2.2.1 ≤ 22
def zMi (Y : zY) (na : Nat) : Prop := Cond.instanceMethod Y.1 ∈ zTW ∧ Cond.initialized Y.1.cls ∈ zTW ∧ Cond.code Y.1 Y.2.1 Y.2.2.1 none ∈ zTW ∧ (Y.1.cls ≠ "java/lang/invoke/MethodHandle" ∧ Y.1.cls ≠ "java/lang/invoke/VarHandle" ∧ (parseMethodDescriptor Y.1.desc).map (fun d => d.parameters.length) = some na) ∧ Y.2.2.1 ≤ 22 ∧ Y.1.name = "<init>" ∧ Y.2.2.2 = none
/-- a place of a call: its link, or its link to a nest mate -/
def zCl (Y : zY) (pc : Nat) (i : Nat → Instr) (Y' : zY) (n : Nat) : Prop := ∃ idx, decode Y.2.1 pc = .ok (i idx, 3) ∧ pc + 3 = n ∧ (Cond.methodLink Y.1.cls idx Y'.1 ∈ zTW ∨ ∃ host, (Y.1.cls, idx, Y'.1, host) ∈ zNest)
theorem zAOA.same {u U : State} (hv : U.vm = u.vm) (h : zAOA u) : zAOA U := by
  unfold zAOA Cond.before Cond.holds at h ⊢
  simp only [Cond.value] at h ⊢
  rw [hv]
  exact h
theorem zK.same {G : zG} {u U : State} (hv : U.vm = u.vm) (h : zK G u) : zK G U := by
  obtain ⟨h1, h2, h3, h4, h5⟩ := h
  exact ⟨va_K.moved (by rw [hv]; exact Vm.Alike.refl _) h1, fun q hq => va_Nw.same rfl hv.symm (h2 q hq), fun C hC => va_AO.moved (by rw [hv]; exact Vm.Alike.refl _) (h3 C hC), zAOA.same hv h4, fun q hq => vk_R.same hv (h5 q hq)⟩
theorem zK.warm {G : zG} {s U : State} (hW : s.WarmedH U.vm) (h : zK G s) : zK G U := by
  obtain ⟨h1, h2, h3, h4, h5⟩ := h
  exact ⟨va_K.moved hW.alike h1, fun q hq => va_Nw.warmM hW (h2 q hq), fun C hC => va_AO.moved hW.alike (h3 C hC), zAOA.same (u := s.setVm U.vm) rfl (by unfold zAOA; rw [Cond.arrayOver_setVmC hW.alike]; exact h4), fun q hq => vk_R.warm hW (h5 q hq)⟩
section ZC
variable {Y Y' : zY} {fr fr' cm sm cm' sm' pc n na : Nat} {ls : zLs} {st : List zVal} {M : zM} {Q Q1 : Option zVal → zM → Prop} {As : List zVal}
theorem z_blind {G : zG} {av : List Value} {θ : zAd → Nat} : FrameBlind (va_Pc av (fun U => zK G U ∧ zS G U U.heap ∧ zR G θ M U.heap ∧ G.2.2.1 ≤ U.heap.size)) :=
  fun a U g mk q => ⟨q.1, zK.same (u := U) (U := U.calling g mk a) rfl q.2.1, zS.moved (u := U) (Vm.Alike.refl _) q.2.2.1, q.2.2.2.1, q.2.2.2.2⟩
/-- what is handed to a method that is called -/
theorem zPre.hand {cm sm : Nat} {G : zG} {p : Program} {s : State} {m : MethodId} {args : Array Value} {meth : Method} {c : Code} {H : Heap} {locs : List Loc} {cells slots : Nat} {θ0 : zAd → Nat} {M0 : zM} {θ : zAd → Nat} {lsA : Array Slot} {R : Room} (P : zPre Y fr cm sm ls st M G p s m args meth c H locs cells slots θ0 M0 θ lsA R) (av : List Value) :
    ∀ U : State, U.heap = H → s.WarmedH U.vm → va_Pc av (fun U => zK G U ∧ zS G U U.heap ∧ zR G θ M U.heap ∧ G.2.2.1 ≤ U.heap.size) av.toArray U := fun U hU hW =>
  ⟨rfl, zK.warm hW P.1.2.2.2.2.2.2.2.2.1, by rw [hU]; exact zS.moved hW.alike (zS.kept P.1.2.2.2.2.2.2.2.2.2.1 P.2.2.1.1 P.2.2.1.2.1), by rw [hU]; exact P.2.2.2.2.1, by rw [hU]; exact Nat.le_trans P.1.2.2.2.2.2.2.2.2.2.2 P.2.2.1.1⟩
theorem z_callG {r : Option zVal} {M1 : zM} {st0 : List zVal} (k : zV Y fr cm' sm' n ls (r.toList ++ st) M1 Q) (hn : n = pc + 3) (hdom : okS M st0 → okS M st)
    (h : ∀ {G : zG} {p : Program} {l : Launch} {e : Env} {s : State} {m : MethodId} {args : Array Value} {below : List Frame} {meth : Method} {c : Code} {H : Heap} {locs : List Loc} {cells slots : Nat} {θ0 : zAd → Nat} {M0 : zM} {θ : zAd → Nat} {lsA : Array Slot} {R : Room},
      zPre Y fr (cm + cm') (sm + sm') ls st0 M G p s m args meth c H locs cells slots θ0 M0 θ lsA R → ∃ a, va_Run p l e R s m args below meth c H locs cells slots cm sm (F0 m pc lsA (st0.map (zc θ))) (st.map (zc θ)) (zQc G θ M r M1 a) (zA G)) : zV Y fr (cm + cm') (sm + sm') pc ls st0 M Q := by
  obtain ⟨r2, M', hq, hk⟩ := k
  refine ⟨r2, M', hq, fun {G p l e s m args below meth c H locs cells slots θ0 M0 θ lsA R} P => ?_⟩
  obtain ⟨a, hr⟩ := h (below := below) (l := l) (e := e) P
  intro T hT X
  obtain ⟨v, st₀, t, T', L, h0, X', hL, e1, e2, ⟨θ', hE, ho, hR, hok, hz, hkp⟩, hst⟩ := hr T hT X
  have hv : v = r.map (zc θ') := Outcome.returned.inj ho
  rw [h0] at hz hkp
  have hs0 := hdom P.2.2.2.2.2.2
  have hS1 : va_S (zA G) s.heap T'.heap (locs ++ L) := ⟨Nat.le_trans P.2.2.1.1 (by rw [e1]; exact hz), fun q g1 g2 => by rw [e1, hkp q (Nat.lt_of_lt_of_le g1 P.2.2.1.1) g2]; exact P.2.2.1.2.1 q g1 g2, fun q hq => by
    rcases List.mem_append.mp hq with h | h
    · exact P.2.2.1.2.2 q h
    · exact hL q h⟩
  have h9 := hk (G := G) (p := p) (l := l) (e := e) (s := s) (m := m) (args := args) (below := below) (meth := meth) (c := c) (H := T'.heap) (locs := locs ++ L) (cells := cells + cm) (slots := slots + sm) (θ0 := θ0) (M0 := M0) (θ := θ') (lsA := lsA) (R := R)
    ⟨P.1, ⟨P.2.1.1, P.2.1.2.1, by have := P.2.1.2.2.1; omega, by have := P.2.1.2.2.2; omega⟩, hS1, P.2.2.2.1.tr hE, by rw [e1]; exact hR, P.L.ext hE, fun w hw => by
      rcases List.mem_append.mp hw with h | h
      · cases r with
        | none => cases h
        | some r0 => rw [show w = r0 by simpa using h]; exact hok r0 rfl
      · exact (hs0 w h).up hE.1⟩
  rw [show cells + cm + cm' = cells + (cm + cm') by omega, show slots + sm + sm' = slots + (sm + sm') by omega] at h9
  obtain ⟨t2, a1, b1⟩ := h9 T' rfl X'
  refine ⟨t2, hst t2 ?_, b1⟩
  have e9 : (r.toList ++ st).map (zc θ') = v.toList ++ st.map (zc θ) := by
    rw [List.map_append, zc.exts hE hs0, hv]
    cases r <;> rfl
  rw [e9, hn] at a1
  exact a1
theorem okS.rev {X : List zVal} {a : zVal} {st : List zVal} (h : okS M (X.reverse ++ a :: st)) : okS M X ∧ okV M a ∧ okS M st :=
  ⟨fun v hv => h v (List.mem_append_left _ (List.mem_reverse.mpr hv)), h a (List.mem_append_right _ List.mem_cons_self), fun v hv => h v (List.mem_append_right _ (List.mem_cons_of_mem _ hv))⟩
theorem okS.rev0 {X : List zVal} {st : List zVal} (h : okS M (X.reverse ++ st)) : okS M X ∧ okS M st :=
  ⟨fun v hv => h v (List.mem_append_left _ (List.mem_reverse.mpr hv)), fun v hv => h v (List.mem_append_right _ hv)⟩
theorem zc_cats (θ : zAd → Nat) (v : zVal) : (zc θ v).category = (match v with | .inr (.inl _) => 2 | _ => 1) := by
  match v with
  | .inl _ => rfl
  | .inr (.inl _) => rfl
  | .inr (.inr none) => rfl
  | .inr (.inr (some _)) => rfl
def zWd : List zVal → Nat
  | [] => 0
  | .inr (.inl _) :: l => 2 + zWd l
  | .inl _ :: l => 1 + zWd l
  | .inr (.inr _) :: l => 1 + zWd l
theorem zWd_sum (θ : zAd → Nat) : ∀ l : List zVal, ((l.map (zc θ)).map fun v => v.category).sum = zWd l
  | [] => rfl
  | .inr (.inl _) :: l => by have := zWd_sum θ l; simp only [List.map_cons, List.sum_cons, zc_cats, zWd]; omega
  | .inl _ :: l => by have := zWd_sum θ l; simp only [List.map_cons, List.sum_cons, zc_cats, zWd]; omega
  | .inr (.inr _) :: l => by have := zWd_sum θ l; simp only [List.map_cons, List.sum_cons, zc_cats, zWd]; omega
theorem zCW {R : Room} {s : State} {args : Array Value} {own : String} {index : Nat} (ht : ∀ w ∈ zTW, w.before args s = true) (hini : Cond.initialized Y'.1.cls ∈ zTW) (hcode : Cond.code Y'.1 Y'.2.1 Y'.2.2.1 Y'.2.2.2 ∈ zTW) (hl : Cond.methodLink own index Y'.1 ∈ zTW)
    (hd : Y'.1.cls ≠ "java/lang/invoke/MethodHandle" ∧ Y'.1.cls ≠ "java/lang/invoke/VarHandle" ∧ (parseMethodDescriptor Y'.1.desc).map (fun d => d.parameters.length) = some na) (hm : Y'.2.2.1 ≤ 22) (hR : fr' + 1 ≤ fr ∧ fr ≤ R.frames ∧ 41 * fr ≤ R.locals) :
    CallB R s args own index Y'.1 Y'.2.1 Y'.2.2.1 Y'.2.2.2 (zws Y') (zRm fr' cm sm) cm sm na :=
  callB_of na ht (fun w hw => by
    rcases List.mem_cons.mp hw with rfl | h
    · exact zTW_good _ hcode
    · exact zTW_good _ h) rfl rfl rfl (ht _ hini) (ht _ hl) hd ⟨by show fr' + 1 ≤ R.frames; omega, by show 8 + (Y'.2.2.1 + 11) + 41 * fr' ≤ R.locals; omega⟩
theorem zCN {R : Room} {s : State} {args : Array Value} {own host : String} {index : Nat} {G : zG} (hK : zK G s) (ht : ∀ w ∈ zTW, w.before args s = true) (hini : Cond.initialized Y'.1.cls ∈ zTW) (hcode : Cond.code Y'.1 Y'.2.1 Y'.2.2.1 Y'.2.2.2 ∈ zTW) (hl : (own, index, Y'.1, host) ∈ zNest)
    (hd : Y'.1.cls ≠ "java/lang/invoke/MethodHandle" ∧ Y'.1.cls ≠ "java/lang/invoke/VarHandle" ∧ (parseMethodDescriptor Y'.1.desc).map (fun d => d.parameters.length) = some na) (hm : Y'.2.2.1 ≤ 22) (hR : fr' + 1 ≤ fr ∧ fr ≤ R.frames ∧ 41 * fr ≤ R.locals) :
    va_CN R s args own index Y'.1 host Y'.2.1 Y'.2.2.1 Y'.2.2.2 (zws Y') (zRm fr' cm sm) cm sm na :=
  va_cnB na ht (fun w hw => by
    rcases List.mem_cons.mp hw with rfl | h
    · exact zTW_good _ hcode
    · exact zTW_good _ h) rfl rfl rfl (hK.2.1 _ hl) (ht _ hini) hd ⟨by show fr' + 1 ≤ R.frames; omega, by show 8 + (Y'.2.2.1 + 11) + 41 * fr' ≤ R.locals; omega⟩
/-- a call of a method of an object -/
theorem z_cv {ci : Nat} {a : zAd} {fs : List zVal} (hd : zCl Y pc .invokevirtual Y' n) (hm : zMv Y' ci na) (hM : M a = some (.inr (ci, fs))) (hn : As.length = na) (hw : zWd st ≤ 8) (hfr : fr' + 1 ≤ fr) (hc : zC Y' fr' cm sm (zr a :: As) M Q1) (k : ∀ r M1, Q1 r M1 → zV Y fr cm' sm' n ls (r.toList ++ st) M1 Q) : zV Y fr (cm + cm') (sm + sm') pc ls (As.reverse ++ zr a :: st) M Q := by
  obtain ⟨r, M1, hq, hc⟩ := hc
  obtain ⟨idx, hd, rfl, hl⟩ := hd
  obtain ⟨m1, m2, m3, m4, m5, m6, T0, N0, m7⟩ := hm
  refine z_callG (k r M1 hq) rfl (fun h => h.rev.2.2) (fun {G p l e s m args below meth c H locs cells slots θ0 M0 θ lsA R} P => ?_)
  obtain ⟨a1, a2, a3⟩ := P.sk.rev
  have hM' := hc G l θ (okS.c a2 a1)
  have hts := P.w
  have hK := P.1.2.2.2.2.2.2.2.2.1
  have hrecv : ∃ cell : Cell, H[θ a]? = some cell ∧ cell.vm.isStatics = false ∧ s.vm.findClass Y'.1.cls = some cell.cls := va_recv (ws := [(_, _)]) hK.1 (zP1 (P.2.2.2.2.1.g hM (Or.inr fun n f q => by cases q))) (q0 := 0) m7 rfl
  have hroom : 2 * (F0 m pc lsA ((As.reverse ++ zr a :: st).map (zc θ))).monitorRoom + ((st.map (zc θ)).map fun v => v.category).sum ≤ 8 := lv_room (by rw [zWd_sum]; exact hw)
  rcases hl with hl | ⟨host, hl⟩
  · exact ⟨_, va_runV (b := θ a) (As := As.map (zc θ)) (rest := st.map (zc θ)) ⟨P.x, P.b, P.1.2.2.1, P.o, hts⟩ hM' ⟨zCW hts m3 m4 hl m5 m6 ⟨hfr, P.2.1.1, P.2.1.2.1⟩, hts _ m1, hts _ m2⟩ ⟨z_blind, hrecv, P.hand _⟩ rfl (by rw [List.length_map]; exact hn) P.L.1 (by simp [zc, List.map_reverse]) hroom hd ⟨by have := P.2.1.2.2.1; omega, by have := P.2.1.2.2.2; omega⟩⟩
  · exact ⟨_, va_runVN (b := θ a) (As := As.map (zc θ)) (rest := st.map (zc θ)) ⟨P.x, P.b, P.1.2.2.1, P.o, hts⟩ hM' ⟨zCN hK hts m3 m4 hl m5 m6 ⟨hfr, P.2.1.1, P.2.1.2.1⟩, hts _ m1, hts _ m2⟩ ⟨z_blind, hrecv, P.hand _⟩ rfl (by rw [List.length_map]; exact hn) P.L.1 (by simp [zc, List.map_reverse]) hroom hd ⟨by have := P.2.1.2.2.1; omega, by have := P.2.1.2.2.2; omega⟩⟩
/-- a call of a static method -/
theorem z_cs (hd : zCl Y pc .invokestatic Y' n) (hm : zMs Y' na) (hn : As.length = na) (hw : zWd st ≤ 8) (hfr : fr' + 1 ≤ fr) (hc : zC Y' fr' cm sm As M Q1) (k : ∀ r M1, Q1 r M1 → zV Y fr cm' sm' n ls (r.toList ++ st) M1 Q) : zV Y fr (cm + cm') (sm + sm') pc ls (As.reverse ++ st) M Q := by
  obtain ⟨r, M1, hq, hc⟩ := hc
  obtain ⟨idx, hd, rfl, hl⟩ := hd
  obtain ⟨m2, m3, m4, m5, m6⟩ := hm
  refine z_callG (k r M1 hq) rfl (fun h => h.rev0.2) (fun {G p l e s m args below meth c H locs cells slots θ0 M0 θ lsA R} P => ?_)
  obtain ⟨a1, a3⟩ := P.sk.rev0
  have hM' := hc G l θ a1
  have hts := P.w
  have hK := P.1.2.2.2.2.2.2.2.2.1
  have hroom : 2 * (F0 m pc lsA ((As.reverse ++ st).map (zc θ))).monitorRoom + ((st.map (zc θ)).map fun v => v.category).sum ≤ 8 := lv_room (by rw [zWd_sum]; exact hw)
  rcases hl with hl | ⟨host, hl⟩
  · exact ⟨_, va_runS (As := As.map (zc θ)) (rest := st.map (zc θ)) ⟨P.x, P.b, P.1.2.2.1, P.o, hts⟩ hM' ⟨zCW hts m3 m4 hl m5 m6 ⟨hfr, P.2.1.1, P.2.1.2.1⟩, hts _ m2⟩ ⟨z_blind, P.hand _⟩ rfl (by rw [List.length_map]; exact hn) P.L.1 (by simp [List.map_reverse]) hroom hd ⟨by have := P.2.1.2.2.1; omega, by have := P.2.1.2.2.2; omega⟩⟩
  · exact ⟨_, va_runSN (As := As.map (zc θ)) (rest := st.map (zc θ)) ⟨P.x, P.b, P.1.2.2.1, P.o, hts⟩ hM' ⟨zCN hK hts m3 m4 hl m5 m6 ⟨hfr, P.2.1.1, P.2.1.2.1⟩, hts _ m2, trivial⟩ ⟨z_blind, P.hand _⟩ rfl (by rw [List.length_map]; exact hn) P.L.1 (by simp [List.map_reverse]) hroom hd ⟨by have := P.2.1.2.2.1; omega, by have := P.2.1.2.2.2; omega⟩⟩
/-- a call of a constructor -/
theorem z_ci {a : zAd} (hd : zCl Y pc .invokespecial Y' n) (hm : zMi Y' na) (hn : As.length = na) (hw : zWd st ≤ 8) (hfr : fr' + 1 ≤ fr) (hc : zC Y' fr' cm sm (zr a :: As) M Q1) (k : ∀ r M1, Q1 r M1 → zV Y fr cm' sm' n ls (r.toList ++ st) M1 Q) : zV Y fr (cm + cm') (sm + sm') pc ls (As.reverse ++ zr a :: st) M Q := by
  obtain ⟨r, M1, hq, hc⟩ := hc
  obtain ⟨idx, hd, rfl, hl⟩ := hd
  obtain ⟨m1, m3, m4, m5, m6, m7, m8⟩ := hm
  refine z_callG (k r M1 hq) rfl (fun h => h.rev.2.2) (fun {G p l e s m args below meth c H locs cells slots θ0 M0 θ lsA R} P => ?_)
  obtain ⟨a1, a2, a3⟩ := P.sk.rev
  have hM' := hc G l θ (okS.c a2 a1)
  have hts := P.w
  have hK := P.1.2.2.2.2.2.2.2.2.1
  have hroom : 2 * (F0 m pc lsA ((As.reverse ++ zr a :: st).map (zc θ))).monitorRoom + ((st.map (zc θ)).map fun v => v.category).sum ≤ 8 := lv_room (by rw [zWd_sum]; exact hw)
  obtain ⟨y1, y2, y3, y4⟩ := Y'
  dsimp only at m8
  subst m8
  rcases hl with hl | ⟨host, hl⟩
  · exact ⟨_, va_runI (b := θ a) (As := As.map (zc θ)) (rest := st.map (zc θ)) ⟨P.x, P.b, P.1.2.2.1, P.o, hts⟩ hM' ⟨zCW (Y' := (y1, y2, y3, none)) hts m3 m4 hl m5 m6 ⟨hfr, P.2.1.1, P.2.1.2.1⟩, m7, hts _ m1⟩ ⟨z_blind, P.hand _⟩ rfl (by rw [List.length_map]; exact hn) P.L.1 (by simp [zc, List.map_reverse]) hroom hd ⟨by have := P.2.1.2.2.1; omega, by have := P.2.1.2.2.2; omega⟩⟩
  · exact ⟨_, va_runIN (b := θ a) (As := As.map (zc θ)) (rest := st.map (zc θ)) ⟨P.x, P.b, P.1.2.2.1, P.o, hts⟩ hM' ⟨zCN (Y' := (y1, y2, y3, none)) hK hts m3 m4 hl m5 m6 ⟨hfr, P.2.1.1, P.2.1.2.1⟩, m7, hts _ m1⟩ ⟨z_blind, P.hand _⟩ rfl (by rw [List.length_map]; exact hn) P.L.1 (by simp [zc, List.map_reverse]) hroom hd ⟨by have := P.2.1.2.2.1; omega, by have := P.2.1.2.2.2; omega⟩⟩
def zOi (Y : zY) (pc n : Nat) : Prop := ∃ idx, decode Y.2.1 pc = .ok (.invokespecial idx, 3) ∧ pc + 3 = n ∧ Cond.methodLink Y.1.cls idx Lib.objectInit ∈ zTW ∧ Cond.instanceMethod Lib.objectInit ∈ zTW ∧ Cond.code Lib.objectInit ⟨#[0xb1]⟩ 1 none ∈ zTW
/-- Object.<init> -/
theorem z_oi {a : zAd} (hd : zOi Y pc n) (hfr : 1 ≤ fr) (hw : zWd st ≤ 8) (k : zV Y fr cm sm n ls st M Q) : zV Y fr cm sm pc ls (zr a :: st) M Q := by
  obtain ⟨idx, hd, rfl, w1, w2, w3⟩ := hd
  refine z_pure k (fun {G p l e s m args below meth c H locs cells slots θ0 M0 θ lsA R Z} P kk => ?_)
  have hroom : 2 * (F0 m pc lsA ((zr a :: st).map (zc θ))).monitorRoom + ((st.map (zc θ)).map fun v => v.category).sum ≤ 8 := lv_room (by rw [zWd_sum]; exact hw)
  exact W.objInit P.x P.b P.o (P.w _ w1) (P.w _ w2) (P.w _ w3) rfl (P.L.1.trans P.1.2.2.1.symm) rfl hd (Nat.le_trans hfr P.2.1.1) (by have := P.2.1.2.1; omega) (kk _ P.L P.sk.t)
end ZC
