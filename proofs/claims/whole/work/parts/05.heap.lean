/-! rows of zV that read and write the memory -/
/-- a class of the table: its number, its name, its fields -/
def zCf (ci : Nat) (C : String) (T : u_T) (N : Nat) : Prop := vwCl[ci]? = some (C, T, N) ∧ (∀ w ∈ u_ws C T N, w ∈ zTW) ∧ (∀ a, a < N → ∀ b, b < N → a ≠ b → (T a).2.1 ≠ (T b).2.1) ∧ ∃ ty : Nat → FieldType, ∀ k, k < N → parseFieldDescriptor (T k).2.2.1 = some (ty k)
def zGf (Y : zY) (pc ci k n : Nat) : Prop := ∃ (idx : Nat) (C : String) (T : u_T) (N : Nat), zCf ci C T N ∧ k < N ∧ decode Y.2.1 pc = .ok (.getfield idx, 3) ∧ pc + 3 = n ∧ Cond.fieldLink Y.1.cls idx (T k).1 (T k).2.1 (T k).2.2.1 ∈ zTW
def zPf (Y : zY) (pc ci k : Nat) (ty : FieldType) (n : Nat) : Prop := ∃ (idx : Nat) (C : String) (T : u_T) (N : Nat), zCf ci C T N ∧ k < N ∧ decode Y.2.1 pc = .ok (.putfield idx, 3) ∧ pc + 3 = n ∧ Cond.fieldLink Y.1.cls idx (T k).1 (T k).2.1 (T k).2.2.1 ∈ zTW ∧ parseFieldDescriptor (T k).2.2.1 = some ty ∧ ((T k).2.2.2 = false ∨ ((T k).2.2.2 = true ∧ Y.1.name = "<init>" ∧ (T k).1 = Y.1.cls))
/-- a value fits a field of a type -/
def zFit : FieldType → zVal → Prop
  | .int, .inl _ => True
  | .boolean, .inl x => x = 0 ∨ x = 1
  | .long, .inr (.inl _) => True
  | .object _, .inr (.inr _) => True
  | .array _, .inr (.inr _) => True
  | _, _ => False
theorem zFit.n {ty : FieldType} {v : zVal} (h : zFit ty v) (θ : zAd → Nat) : narrow ty (zc θ v) = zc θ v ∧ fits ty (zc θ v) = true := by
  match ty, v, h with
  | .int, .inl x, _ => exact ⟨rfl, rfl⟩
  | .boolean, .inl x, h => rcases h with rfl | rfl <;> exact ⟨rfl, rfl⟩
  | .long, .inr (.inl _), _ => exact ⟨rfl, rfl⟩
  | .object _, .inr (.inr none), _ => exact ⟨rfl, rfl⟩
  | .object _, .inr (.inr (some _)), _ => exact ⟨rfl, rfl⟩
  | .array _, .inr (.inr none), _ => exact ⟨rfl, rfl⟩
  | .array _, .inr (.inr (some _)), _ => exact ⟨rfl, rfl⟩
/-- f, but v at k -/
def zup {α : Type} (f : Nat → α) (k : Nat) (v : α) : Nat → α := fun j => if j = k then v else f j
theorem zup_s {α : Type} {f : Nat → α} {k : Nat} {v : α} : zup f k v k = v := if_pos rfl
theorem zup_n {α : Type} {f : Nat → α} {k j : Nat} {v : α} (h : j ≠ k) : zup f k v j = f j := if_neg h
theorem zupd_s {M : zM} {a : zAd} {e : zE} : zupd M a e a = some e := if_pos rfl
theorem zupd_n {M : zM} {a b : zAd} {e : zE} (h : b ≠ a) : zupd M a e b = M b := if_neg h
theorem z_clamp {i : Int32} {j : Nat} (h : i.toInt = (j : Int)) : i.toNatClampNeg = j := by
  show i.toInt.toNat = j
  omega
theorem z_within {i : Int32} {j N : Nat} (h : i.toInt = (j : Int)) (hj : j < N) : vp_in i N := vp_in_iff.mpr ⟨by omega, by omega⟩
section ZH
variable {Y : zY} {fr cm sm pc n : Nat} {ls : zLs} {st : List zVal} {M : zM} {Q : Option zVal → zM → Prop}
theorem zP1 {D : va_G} {q : Nat × va_E} {H : Heap} (h : va_at D vwCl q H) : va_P D vwCl [q] H := fun k x hk => by
  match k, hk with
  | 0, hk => cases hk; exact h
  | k + 1, hk => simp at hk
theorem z_gf {ci k : Nat} {a : zAd} {fs : List zVal} {v : zVal} (hd : zGf Y pc ci k n) (hM : M a = some (.inr (ci, fs))) (hv : fs[k]? = some v) (kk : zV Y fr cm sm n ls (v :: st) M Q) : zV Y fr cm sm pc ls (zr a :: st) M Q := by
  obtain ⟨idx, C, T, N, ⟨hc, hu, -⟩, hk, hd, rfl, hl⟩ := hd
  refine z_pure kk (fun P k2 => ?_)
  obtain ⟨-, g2, -⟩ := P.2.2.2.2.1.1 a _ hM
  have g1 := P.2.2.2.2.1.g hM (Or.inr fun n f q => by cases q)
  exact va_get (ws := [(_, _)]) P.x P.b P.w hu P.o P.1.2.2.2.2.2.2.2.2.1.1 (zP1 g1) 0 rfl hc k hk (P.w _ hl) (fun _ h => h) (by rw [List.getElem?_map, hv]; rfl) hd (k2 _ P.L (okS.c (g2 v (List.mem_of_getElem? hv)) P.sk.t))
/-- the judgement at a place, out of the judgement at the next, one cell written -/
theorem z_store {a : zAd} {e0 e1 : zE} {n' : Nat} {st' : List zVal} (hM : M a = some e0) (ha : 2 ≤ a.1) (k : zV Y fr cm sm n' ls st' (zupd M a e1) Q)
    (h : ∀ {G : zG} {p : Program} {l : Launch} {e : Env} {s : State} {m : MethodId} {args : Array Value} {below : List Frame} {meth : Method} {c : Code} {H : Heap} {locs : List Loc} {cells slots : Nat} {θ0 : zAd → Nat} {M0 : zM} {θ : zAd → Nat} {lsA : Array Slot} {R : Room} {Z : State → Prop},
      zPre Y fr cm sm ls st M G p s m args meth c H locs cells slots θ0 M0 θ lsA R → va_at G.1 vwCl (θ a, zcE θ G.2.1 e0) H → okE M e0 → (∀ (H1 : Heap) (i : Nat), va_at G.1 vwCl (θ a, zcE θ G.2.1 e1) H1 → H1.size = H.size → (∀ q : Nat, q ≠ θ a → H1[q]? = H[q]?) → okE M e1 → okS M st' → W p l e R s m args below meth c H1 (locs ++ [⟨θ a, i⟩]) cells slots Z (F0 m n' lsA (st'.map (zc θ)))) → W p l e R s m args below meth c H locs cells slots Z (F0 m pc lsA (st.map (zc θ)))) : zV Y fr cm sm pc ls st M Q := by
  obtain ⟨r, M', hq, hk⟩ := k
  refine ⟨r, M', hq, fun P => ?_⟩
  obtain ⟨-, g2, g3⟩ := P.2.2.2.2.1.1 a _ hM
  have g1 := P.2.2.2.2.1.g hM (Or.inl (by omega))
  refine h P g1 g2 (fun H1 i h1 h2 h3 h4 h5 => ?_)
  exact hk ⟨P.1, P.2.1, P.2.2.1.put h2 h3 (g3 ha), P.2.2.2.1.tr ⟨zDom.upd, fun _ _ => rfl⟩, P.2.2.2.2.1.set hM ha h1 h3 h4, ⟨P.L.1, P.L.2.1, fun i v hv => ⟨(P.L.2.2 i v hv).1, (P.L.2.2 i v hv).2.up zDom.upd⟩⟩, h5.up zDom.upd⟩
theorem z_pf {ci k : Nat} {a : zAd} {fs : List zVal} {v : zVal} {ty : FieldType} (hd : zPf Y pc ci k ty n) (hM : M a = some (.inr (ci, fs))) (ha : 2 ≤ a.1) (hl : k < fs.length) (hf : zFit ty v) (kk : zV Y fr cm sm n ls st (zupd M a (.inr (ci, fs.set k v))) Q) : zV Y fr cm sm pc ls (v :: zr a :: st) M Q := by
  obtain ⟨idx, C, T, N, ⟨hc, hu, hnm, ty0, hty⟩, hkN, hd, rfl, hlk, hd2, hfin⟩ := hd
  refine z_store hM ha kk (fun {G p l e s m args below meth c H locs cells slots θ0 M0 θ lsA R Z} P g1 g2 k2 => ?_)
  have hts := P.w
  have hK := P.1.2.2.2.2.2.2.2.2.1.1
  have hap := va_apart (own := Y.1.cls) hts hu ty0 hty hnm hK hc
  obtain ⟨r, h1, cell, q1, q2, q3, q4⟩ := g1
  have hr : r = (C, T, N) := Option.some.inj (h1.symm.trans hc)
  subst hr
  obtain ⟨hS, hfc, kC, hkC, hkind⟩ := hK.1 ci _ hc
  obtain ⟨cf, kf, fi, f, hi, hsl⟩ := hS k hkN
  obtain ⟨hn1, hn2⟩ := hf.n θ
  have hst := (u_facts hfc hkC (u_lays hts hu hkN) hi).1
  have okn : okE M (.inr (ci, fs.set k v)) := fun w hw => by
    rcases List.mem_or_eq_of_mem_set hw with h | h
    · exact g2 w h
    · rw [h]; exact P.sk.h
  have fin : ∀ (H' : Heap), H'[θ a]? = some (cell.setSlot f.slot (zc θ v)) → va_at G.1 vwCl (θ a, zcE θ G.2.1 (.inr (ci, fs.set k v))) H' := fun H' e1 => by
    show va_at G.1 vwCl (θ a, .inr (ci, (fs.set k v).map (zc θ))) H'
    rw [List.map_set]
    rw [hsl] at e1
    exact ⟨_, hc, t_OB.to (V := updV (vp_V (fs.map (zc θ))) k (zc θ v)) ⟨_, e1, q2, q3, t_set q4 hap hkN (zc θ v)⟩ (fun j _ => vp_updV_set (by rw [List.length_map]; exact hl) (zc θ v) j)⟩
  rcases hfin with hfin | ⟨hfin, hin2, hdecl⟩
  · have hlay := hts _ (hu _ (u_in_lay hkN))
    unfold u_lay at hlay
    rw [if_neg (by rw [hfin]; decide)] at hlay
    have h6 := u_store hfc hkC hkind hlay hi hd2 hn1 hn2
    exact W.putK P.x P.b (f := f) ⟨P.o, hts _ hlk, ⟨_, _, _, hi⟩, hst⟩ (by rw [q2]; exact h6) q1 q3 (by rw [hsl]; exact k2_hasslot (q4 k hkN)) rfl rfl hd fun H' e1 e2 e3 => k2 H' _ (fin H' e1) e2 e3 okn P.sk.t.t
  · have hlay := hts _ (hu _ (u_in_lay hkN))
    unfold u_lay at hlay
    rw [if_pos hfin] at hlay
    have hcf : m.cls = cf := by
      obtain ⟨_, _, c', _, _, _, -, -, hf', -, -, -, hown2, -⟩ := Cond.laysFinal_spec hlay
      have e1 : c' = cf := by have := hi.symm.trans hf'; simp at this; exact this.1.symm
      rw [hdecl] at hown2
      rw [← e1]; exact Option.some.inj (P.o.symm.trans hown2)
    have h6 := u_fits hfc hkC hkind (Or.inr hlay) hi hd2 hn1 hn2
    exact W.putFinK P.x P.b P.o (hts _ hlk) hi hst hcf (P.1.2.2.2.2.2.1 hin2) (by rw [q2]; exact h6) q1 q3 (by rw [hsl]; exact k2_hasslot (q4 k hkN)) rfl rfl hd fun H' e1 e2 e3 => k2 H' _ (fin H' e1) e2 e3 okn P.sk.t.t
theorem z_iald {a : zAd} {N j : Nat} {f : Nat → Int32} {i : Int32} (hd : zD Y pc 1 .iaload n) (hM : M a = some (.inl (0, N, .inl f))) (hi : i.toInt = (j : Int)) (hj : j < N) (kk : zV Y fr cm sm n ls (zi (f j) :: st) M Q) : zV Y fr cm sm pc ls (zi i :: zr a :: st) M Q := by
  obtain ⟨hd, rfl⟩ := hd
  refine z_pure kk (fun {G p l e s m args below meth c H locs cells slots θ0 M0 θ lsA R Z} P k2 => ?_)
  have h2 := k2 _ P.L (okS.c trivial P.sk.t.t)
  rw [← z_clamp hi] at h2
  by_cases h1 : a.1 = 1
  · obtain ⟨e1, e2, e3⟩ := (P.2.2.2.2.1.1 a _ hM).1.s h1
    cases e1
    have hS := P.1.2.2.2.2.2.2.2.2.2.1
    show W p l e R s m args below meth c H locs cells slots Z (F0 m pc lsA (.int i :: .ref (θ a) :: st.map (zc θ)))
    rw [e2]
    exact va_sld P.x P.b hS.2.2.2.1 hS.2.2.2.2.1 hS.2.2.2.2.2 P.2.2.1 (z_within hi hj) hd h2
  · exact va_iald (ws := [(_, _)]) P.x P.b P.1.2.2.2.2.2.2.2.2.1.1 (zP1 (P.2.2.2.2.1.g hM (Or.inl h1))) 0 0 rfl rfl (z_within hi hj) hd h2
theorem z_bald {a : zAd} {N j : Nat} {f : Nat → Int32} {i : Int32} (hd : zD Y pc 1 .baload n) (hM : M a = some (.inl (2, N, .inl f))) (hi : i.toInt = (j : Int)) (hj : j < N) (kk : zV Y fr cm sm n ls (zi (f j) :: st) M Q) : zV Y fr cm sm pc ls (zi i :: zr a :: st) M Q := by
  obtain ⟨hd, rfl⟩ := hd
  refine z_pure kk (fun P k2 => ?_)
  have h2 := k2 _ P.L (okS.c trivial P.sk.t.t)
  rw [← z_clamp hi] at h2
  exact va_bald (ws := [(_, _)]) P.x P.b P.1.2.2.2.2.2.2.2.2.1.1 (zP1 (P.2.2.2.2.1.g hM (Or.inr fun n f q => by cases q))) 0 2 rfl rfl (z_within hi hj) hd h2
theorem z_zald {a : zAd} {N j : Nat} {f : Nat → Int32} {i : Int32} (hd : zD Y pc 1 .baload n) (hM : M a = some (.inl (3, N, .inl f))) (hi : i.toInt = (j : Int)) (hj : j < N) (kk : zV Y fr cm sm n ls (zi (f j) :: st) M Q) : zV Y fr cm sm pc ls (zi i :: zr a :: st) M Q := by
  obtain ⟨hd, rfl⟩ := hd
  refine z_pure kk (fun P k2 => ?_)
  have h2 := k2 _ P.L (okS.c trivial P.sk.t.t)
  rw [← z_clamp hi] at h2
  exact va_zald (ws := [(_, _)]) P.x P.b P.1.2.2.2.2.2.2.2.2.1.1 (zP1 (P.2.2.2.2.1.g hM (Or.inr fun n f q => by cases q))) 0 3 rfl rfl (z_within hi hj) hd h2
theorem z_lald {a : zAd} {N j : Nat} {f : Nat → Int64} {i : Int32} (hd : zD Y pc 1 .laload n) (hM : M a = some (.inl (1, N, .inr (.inl f)))) (hi : i.toInt = (j : Int)) (hj : j < N) (kk : zV Y fr cm sm n ls (zl (f j) :: st) M Q) : zV Y fr cm sm pc ls (zi i :: zr a :: st) M Q := by
  obtain ⟨hd, rfl⟩ := hd
  refine z_pure kk (fun P k2 => ?_)
  have h2 := k2 _ P.L (okS.c trivial P.sk.t.t)
  rw [← z_clamp hi] at h2
  exact va_lald (ws := [(_, _)]) P.x P.b P.1.2.2.2.2.2.2.2.2.1.1 (zP1 (P.2.2.2.2.1.g hM (Or.inr fun n f q => by cases q))) 0 1 rfl rfl (z_within hi hj) hd h2
theorem zTyL_ref {dA : Nat → ClassId} {t : Nat} (h4 : 4 ≤ t) (h9 : t ≤ 9) : ∃ ty, (zTyL dA)[t]? = some (dA t, ty) ∧ ty.isReference = true := by
  rcases (show t = 4 ∨ t = 5 ∨ t = 6 ∨ t = 7 ∨ t = 8 ∨ t = 9 by omega) with rfl | rfl | rfl | rfl | rfl | rfl <;> exact ⟨_, rfl, rfl⟩
theorem z_aald {a : zAd} {t N j : Nat} {f : Nat → Option zAd} {i : Int32} (hd : zD Y pc 1 .aaload n) (hM : M a = some (.inl (t, N, .inr (.inr f)))) (ht : 4 ≤ t ∧ t ≤ 9) (hi : i.toInt = (j : Int)) (hj : j < N) (kk : zV Y fr cm sm n ls (.inr (.inr (f j)) :: st) M Q) : zV Y fr cm sm pc ls (zi i :: zr a :: st) M Q := by
  obtain ⟨hd, rfl⟩ := hd
  refine z_pure kk (fun {G p l e s m args below meth c H locs cells slots θ0 M0 θ lsA R Z} P k2 => ?_)
  obtain ⟨-, g2, -⟩ := P.2.2.2.2.1.1 a _ hM
  have g1 := P.2.2.2.2.1.g hM (Or.inr fun n f q => by cases q)
  have hok : okV M (.inr (.inr (f j))) := by
    cases hx : f j with
    | none => trivial
    | some b => exact Or.inr (g2 j b hj hx)
  have h2 := k2 _ P.L (okS.c hok P.sk.t.t)
  obtain ⟨ty, h5, h6⟩ := zTyL_ref (dA := G.2.1) ht.1 ht.2
  have hin := z_within hi hj
  refine W.aald (cell := arrV (G.2.1 t) N (fun j => va_rf ((f j).map θ))) (v := zc θ (.inr (.inr (f j)))) (ty := ty) P.x P.b g1 ((P.1.2.2.2.2.2.2.2.2.1.1.2 t _ h5).1 N _) h6 (fun q => by cases q) (by rw [arrV_size]; exact hin) ?_ rfl rfl hd h2
  rw [z_clamp hi, arrV_read _ _ hj]
  cases f j <;> rfl
theorem z_alen {a : zAd} {t : Nat} {x : zArr} (hd : zD Y pc 1 .arraylength n) (hM : M a = some (.inl (t, x))) (ht : t ≤ 9) (kk : zV Y fr cm sm n ls (zi (Int32.ofNat x.1) :: st) M Q) : zV Y fr cm sm pc ls (zr a :: st) M Q := by
  obtain ⟨hd, rfl⟩ := hd
  refine z_pure kk (fun {G p l e s m args below meth c H locs cells slots θ0 M0 θ lsA R Z} P k2 => ?_)
  have h5 : ∃ ty, (zTyL G.2.1)[t]? = some (G.2.1 t, ty) := by
    rcases (show t = 0 ∨ t = 1 ∨ t = 2 ∨ t = 3 ∨ t = 4 ∨ t = 5 ∨ t = 6 ∨ t = 7 ∨ t = 8 ∨ t = 9 by omega) with rfl | rfl | rfl | rfl | rfl | rfl | rfl | rfl | rfl | rfl <;> exact ⟨_, rfl⟩
  obtain ⟨ty, h5⟩ := h5
  by_cases h1 : a.1 = 1
  · obtain ⟨e1, e2, e3⟩ := (P.2.2.2.2.1.1 a _ hM).1.s h1
    cases e1
    have hS := P.1.2.2.2.2.2.2.2.2.2.1
    show W p l e R s m args below meth c H locs cells slots Z (F0 m pc lsA (.ref (θ a) :: st.map (zc θ)))
    rw [e2]
    exact va_slen P.x P.b hS.2.2.2.1 hS.2.2.2.2.1 hS.2.2.2.2.2 P.2.2.1 hd (k2 _ P.L (okS.c trivial P.sk.t))
  · refine va_alen (ws := [(_, _)]) (x := zcA θ x) P.x P.b P.1.2.2.2.2.2.2.2.2.1.1 (zP1 (P.2.2.2.2.1.g hM (Or.inl h1))) 0 t rfl h5 ?_ hd (k2 _ P.L (okS.c trivial P.sk.t))
    obtain ⟨n0, f | f | f⟩ := x <;> rfl
theorem z_iast {a : zAd} {N j : Nat} {f : Nat → Int32} {i x : Int32} (hd : zD Y pc 1 .iastore n) (hM : M a = some (.inl (0, N, .inl f))) (ha : 2 ≤ a.1) (hi : i.toInt = (j : Int)) (hj : j < N) (kk : zV Y fr cm sm n ls st (zupd M a (.inl (0, N, .inl (zup f j x)))) Q) : zV Y fr cm sm pc ls (zi x :: zi i :: zr a :: st) M Q := by
  obtain ⟨hd, rfl⟩ := hd
  refine z_store hM ha kk (fun {G p l e s m args below meth c H locs cells slots θ0 M0 θ lsA R Z} P g1 g2 k2 => ?_)
  refine W.iast (cell := arrV (G.2.1 0) N (fun j => .int (f j))) P.x P.b g1 ((P.1.2.2.2.2.2.2.2.2.1.1.2 0 _ rfl).1 N _) (fun q => by cases q) (by rw [arrV_size]; exact z_within hi hj) rfl rfl hd fun H1 e z oq => k2 H1 _ ?_ z oq trivial P.sk.t.t.t
  show H1[θ a]? = some (arrV (G.2.1 0) N (fun q => .int (zup f j x q)))
  rw [e, arrV_store, z_clamp hi]
  congr 2
  funext q
  by_cases hq : q = j <;> simp [updV, zup, hq]
theorem z_last {a : zAd} {N j : Nat} {f : Nat → Int64} {i : Int32} {x : Int64} (hd : zD Y pc 1 .lastore n) (hM : M a = some (.inl (1, N, .inr (.inl f)))) (ha : 2 ≤ a.1) (hi : i.toInt = (j : Int)) (hj : j < N) (kk : zV Y fr cm sm n ls st (zupd M a (.inl (1, N, .inr (.inl (zup f j x))))) Q) : zV Y fr cm sm pc ls (zl x :: zi i :: zr a :: st) M Q := by
  obtain ⟨hd, rfl⟩ := hd
  refine z_store hM ha kk (fun {G p l e s m args below meth c H locs cells slots θ0 M0 θ lsA R Z} P g1 g2 k2 => ?_)
  refine W.last (cell := arrV (G.2.1 1) N (fun j => .long (f j))) P.x P.b g1 ((P.1.2.2.2.2.2.2.2.2.1.1.2 1 _ rfl).1 N _) (fun q => by cases q) (by rw [arrV_size]; exact z_within hi hj) rfl rfl hd fun H1 e z oq => k2 H1 _ ?_ z oq trivial P.sk.t.t.t
  show H1[θ a]? = some (arrV (G.2.1 1) N (fun q => .long (zup f j x q)))
  rw [e, arrV_store, z_clamp hi]
  congr 2
  funext q
  by_cases hq : q = j <;> simp [updV, zup, hq]
theorem z_bast {a : zAd} {N j : Nat} {f : Nat → Int32} {i x : Int32} (hd : zD Y pc 1 .bastore n) (hM : M a = some (.inl (2, N, .inl f))) (ha : 2 ≤ a.1) (hi : i.toInt = (j : Int)) (hj : j < N) (kk : zV Y fr cm sm n ls st (zupd M a (.inl (2, N, .inl (zup f j x.toInt8.toInt32)))) Q) : zV Y fr cm sm pc ls (zi x :: zi i :: zr a :: st) M Q := by
  obtain ⟨hd, rfl⟩ := hd
  refine z_store hM ha kk (fun {G p l e s m args below meth c H locs cells slots θ0 M0 θ lsA R Z} P g1 g2 k2 => ?_)
  refine W.bast (cell := arrV (G.2.1 2) N (fun j => .int (f j))) P.x P.b g1 ((P.1.2.2.2.2.2.2.2.2.1.1.2 2 _ rfl).1 N _) (fun q => by cases q) (by rw [arrV_size]; exact z_within hi hj) rfl rfl hd fun H1 e z oq => k2 H1 _ ?_ z oq trivial P.sk.t.t.t
  show H1[θ a]? = some (arrV (G.2.1 2) N (fun q => .int (zup f j x.toInt8.toInt32 q)))
  rw [e, arrV_store, z_clamp hi]
  congr 2
  funext q
  by_cases hq : q = j
  · subst hq; simp [updV, zup]; try rfl
  · simp [updV, zup, hq]
theorem z_zast {a : zAd} {N j : Nat} {f : Nat → Int32} {i x : Int32} (hd : zD Y pc 1 .bastore n) (hM : M a = some (.inl (3, N, .inl f))) (ha : 2 ≤ a.1) (hx : x = 0 ∨ x = 1) (hi : i.toInt = (j : Int)) (hj : j < N) (kk : zV Y fr cm sm n ls st (zupd M a (.inl (3, N, .inl (zup f j x)))) Q) : zV Y fr cm sm pc ls (zi x :: zi i :: zr a :: st) M Q := by
  obtain ⟨hd, rfl⟩ := hd
  refine z_store hM ha kk (fun {G p l e s m args below meth c H locs cells slots θ0 M0 θ lsA R Z} P g1 g2 k2 => ?_)
  refine W.zast (cell := arrV (G.2.1 3) N (fun j => .int (f j))) P.x P.b g1 ((P.1.2.2.2.2.2.2.2.2.1.1.2 3 _ rfl).1 N _) (fun q => by cases q) (by rw [arrV_size]; exact z_within hi hj) rfl rfl hd fun H1 e z oq => k2 H1 _ ?_ z oq trivial P.sk.t.t.t
  show H1[θ a]? = some (arrV (G.2.1 3) N (fun q => .int (zup f j x q)))
  rw [e, arrV_store, z_clamp hi]
  congr 2
  funext q
  by_cases hq : q = j
  · subst hq; rcases hx with rfl | rfl <;> simp [updV, zup] <;> rfl
  · simp [updV, zup, hq]
theorem z_aast {a b : zAd} {t N j ci : Nat} {C : String} {T : u_T} {NC : Nat} {fs : List zVal} {f : Nat → Option zAd} {i : Int32} (hd : zD Y pc 1 .aastore n) (hM : M a = some (.inl (t, N, .inr (.inr f)))) (ha : 2 ≤ a.1) (hB : M b = some (.inr (ci, fs))) (hc : vwCl[ci]? = some (C, T, NC)) (ht : ∀ dA, (zTyL dA)[t]? = some (dA t, .object C)) (hi : i.toInt = (j : Int)) (hj : j < N) (kk : zV Y fr cm sm n ls st (zupd M a (.inl (t, N, .inr (.inr (zup f j (some b)))))) Q) : zV Y fr cm sm pc ls (zr b :: zi i :: zr a :: st) M Q := by
  obtain ⟨hd, rfl⟩ := hd
  refine z_store hM ha kk (fun {G p l e s m args below meth c H locs cells slots θ0 M0 θ lsA R Z} P g1 g2 k2 => ?_)
  have hK := P.1.2.2.2.2.2.2.2.2.1.1
  obtain ⟨r', hr', cellV, v1, v2, v3, -⟩ := P.2.2.2.2.1.g hB (Or.inr fun n f q => by cases q)
  have hcls := (hK.1 ci _ hc).2
  obtain ⟨kA, comp, k1, k2', k3, -⟩ := (hK.2 t _ (ht G.2.1)).2
  have hcomp : comp = G.1.1 ci := Option.some.inj (k3.symm.trans hcls.1)
  subst hcomp
  obtain ⟨kC, hkC, -⟩ := hcls.2
  have hin := z_within hi hj
  have hlt : i.toNatClampNeg < N := Nat.not_le.mp fun q => hin (Or.inr q)
  have h0 : ¬ i < 0 := fun q => hin (Or.inl q)
  refine W.aast (cell := arrV (G.2.1 t) N (fun j => va_rf ((f j).map θ))) P.x P.b g1 (fun q h => by cases h) (fun h => by cases h) k1 k2' rfl hkC ⟨h0, by rw [arrV_size]; exact hlt⟩ v1 (fun q h => by rw [v3] at h; cases h) (by rw [v2]; exact hkC) (by rw [v2]; exact va_assign hcls) rfl rfl hd fun H1 e z oq => k2 H1 _ ?_ z oq ?_ P.sk.t.t.t
  · show H1[θ a]? = some (arrV (G.2.1 t) N (fun q => va_rf ((zup f j (some b) q).map θ)))
    rw [e, arrV_store, z_clamp hi]
    congr 2
    funext q
    by_cases hq : q = j
    · subst hq; simp [updV, zup, va_rf]
    · simp [updV, zup, hq]
  · intro q c0 hq hc0
    unfold zup at hc0
    split at hc0
    · cases hc0; rw [hB]; exact fun z => by cases z
    · exact g2 q c0 hq hc0
/-- the judgement at a place, out of the judgement at the next, one cell made -/
theorem z_make {a : zAd} {e1 : zE} {n' k0 : Nat} {st' : List zVal} (hM : M a = none) (ha : 2 ≤ a.1) (k : zV Y fr cm sm n' ls (zr a :: st') (zupd M a e1) Q) (hst : okS M st → okS M st') (hk1 : okE (zupd M a e1) e1)
    (h : ∀ {G : zG} {p : Program} {l : Launch} {e : Env} {s : State} {m : MethodId} {args : Array Value} {below : List Frame} {meth : Method} {c : Code} {H : Heap} {locs : List Loc} {cells slots : Nat} {θ0 : zAd → Nat} {M0 : zM} {θ : zAd → Nat} {lsA : Array Slot} {R : Room} {Z : State → Prop},
      zPre Y fr (cm + 1) (sm + k0) ls st M G p s m args meth c H locs cells slots θ0 M0 θ lsA R → (∀ (H1 : Heap), va_at G.1 vwCl (H.size, zcE (fun x => if x = a then H.size else θ x) G.2.1 e1) H1 → H1.size = H.size + 1 → (∀ q : Nat, q < H.size → H1[q]? = H[q]?) → W p l e R s m args below meth c H1 locs (cells + 1) (slots + k0) Z (F0 m n' lsA (.ref H.size :: st'.map (zc θ)))) → W p l e R s m args below meth c H locs cells slots Z (F0 m pc lsA (st.map (zc θ)))) : zV Y fr (cm + 1) (sm + k0) pc ls st M Q := by
  obtain ⟨r, M', hq, hk⟩ := k
  refine ⟨r, M', hq, fun {G p l e s m args below meth c H locs cells slots θ0 M0 θ lsA R} P => ?_⟩
  refine h P (fun H1 h1 h2 h3 => ?_)
  obtain ⟨n1, n2⟩ := P.2.2.2.2.1.new hM ha (Nat.le_trans P.1.2.2.2.2.2.2.2.2.2.2 P.2.2.1.1) h1 h3 hk1
  have hst2 := hst P.sk
  have hE : zExt θ M (fun x => if x = a then H.size else θ x) (zupd M a e1) := n2
  have h9 := hk (G := G) (p := p) (l := l) (e := e) (s := s) (m := m) (args := args) (below := below) (meth := meth) (c := c) (H := H1) (locs := locs) (cells := cells + 1) (slots := slots + k0) (θ0 := θ0) (M0 := M0) (θ := fun x => if x = a then H.size else θ x) (lsA := lsA) (R := R)
    ⟨P.1, ⟨P.2.1.1, P.2.1.2.1, by have := P.2.1.2.2.1; omega, by have := P.2.1.2.2.2; omega⟩, ⟨by have := P.2.2.1.1; omega, fun q g1 g2 => (h3 q (Nat.lt_of_lt_of_le g1 P.2.2.1.1)).trans (P.2.2.1.2.1 q g1 g2), P.2.2.1.2.2⟩, P.2.2.2.1.tr n2, n1, P.L.ext n2,
      okS.c (Or.inr (by rw [zupd_s]; exact fun z => by cases z)) (hst2.up zDom.upd)⟩
  rw [show cells + 1 + cm = cells + (cm + 1) by omega, show slots + k0 + sm = slots + (sm + k0) by omega] at h9
  have e2 : (zr a :: st').map (zc (fun x => if x = a then H.size else θ x)) = .ref H.size :: st'.map (zc θ) := by
    rw [List.map_cons, zc.exts hE hst2]
    show Value.ref (if a = a then H.size else θ a) :: _ = _
    rw [if_pos rfl]
  rw [e2] at h9
  exact h9
def zNw (Y : zY) (pc ci : Nat) (n : Nat) : Prop := ∃ (idx : Nat) (C : String) (T : u_T) (N : Nat), zCf ci C T N ∧ decode Y.2.1 pc = .ok (.new idx, 3) ∧ pc + 3 = n ∧ Cond.classLink Y.1.cls idx C ∈ zTW ∧ Cond.instantiable C N ∈ zTW ∧ Cond.initialized C ∈ zTW
/-- a field's value at first -/
def zdv : FieldType → zVal
  | .long => zl 0
  | .object _ => zn
  | .array _ => zn
  | _ => zi 0
def zFs (ci : Nat) (fs : List zVal) : Prop := ∃ C T N, vwCl[ci]? = some (C, T, N) ∧ ∃ ty : Nat → FieldType, (∀ k, k < N → parseFieldDescriptor (T k).2.2.1 = some (ty k) ∧ ty k ≠ .float ∧ ty k ≠ .double) ∧ fs = (List.range N).map (fun k => zdv (ty k))
theorem zdv_c {θ : zAd → Nat} {t : FieldType} (h1 : t ≠ .float) (h2 : t ≠ .double) : zc θ (zdv t) = defaultValue t := by
  cases t <;> first | rfl | exact absurd rfl h1 | exact absurd rfl h2
theorem zdv_ok {M : zM} (t : FieldType) : okV M (zdv t) := by cases t <;> trivial
theorem z_new {ci : Nat} {a : zAd} {fs : List zVal} {N : Nat} (hd : zNw Y pc ci n) (hfs : zFs ci fs) (hN : fs.length = N) (hM : M a = none) (ha : 2 ≤ a.1) (kk : zV Y fr cm sm n ls (zr a :: st) (zupd M a (.inr (ci, fs))) Q) : zV Y fr (cm + 1) (sm + N) pc ls st M Q := by
  obtain ⟨idx, C, T, N0, ⟨hc, hu, hnm, -⟩, hd, rfl, w1, w2, w3⟩ := hd
  obtain ⟨C', T', N', hc', ty, hty, rfl⟩ := hfs
  cases hc.symm.trans hc'
  have hN' : N0 = N := by rw [← hN]; simp
  subst hN'
  refine z_make hM ha kk (fun h => h) (fun v hv => ?_) (fun {G p l e s m args below meth c H locs cells slots θ0 M0 θ lsA R Z} P k2 => ?_)
  · obtain ⟨k, -, rfl⟩ := List.mem_map.mp hv
    exact zdv_ok _
  · have hts := P.w
    have hKn := P.1.2.2.2.2.2.2.2.2.1.1.1 ci _ hc
    refine W.newcK P.x P.b P.o (hts _ w1) (hts _ w2) (hts _ w3) rfl hd (by have := P.2.1.2.2.1; omega) (by have := P.2.1.2.2.2; omega) hKn.2.1 rfl fun H1 kC hkC e1 z1 o1 => k2 H1 ?_ z1 o1
    refine ⟨_, hc, (u_born ty hts hu hKn hkC e1 (fun k hk => (hty k hk).1)).to (fun k hk => ?_)⟩
    obtain ⟨-, g1, g2⟩ := hty k hk
    show defaultValue (ty k) = vp_V (((List.range N0).map (fun k => zdv (ty k))).map (zc _)) k
    simp [vp_V, hk, zdv_c g1 g2]
theorem z_newaG {a : zAd} {atype : ArrayType} {ty : FieldType} {t N : Nat} {x : Int32} {e1 : zArr} (hd : zD Y pc 2 (.newarray atype) n) (hty : newarray.typeOf atype = ty) (hw : Cond.arrayClass ty ∈ zTW) (hx : x.toInt = (N : Int)) (hN : N * 8 ≤ 536870912) (hM : M a = none) (ha : 2 ≤ a.1) (ht : ∀ dA, (zTyL dA)[t]? = some (dA t, ty)) (hra : ∀ (U : State) (cA : ClassId), va_RA U cA ty → U.vm.findClass ("[" ++ ty.toString) = some cA) (hcb : componentBytes ty ≤ 8)
    (he : ∀ θ (cA : ClassId), vp_cell cA (zcA θ e1) = arrV cA N (fun _ => defaultValue ty)) (hok : okE (zupd M a (.inl (t, e1))) (.inl (t, e1))) (kk : zV Y fr cm sm n ls (zr a :: st) (zupd M a (.inl (t, e1))) Q) : zV Y fr (cm + 1) (sm + N) pc ls (zi x :: st) M Q := by
  obtain ⟨hd, rfl⟩ := hd
  subst hty
  refine z_make hM ha kk (fun h => h.t) hok (fun {G p l e s m args below meth c H locs cells slots θ0 M0 θ lsA R Z} P k2 => ?_)
  have hK := P.1.2.2.2.2.2.2.2.2.1.1
  have hb : N * componentBytes (newarray.typeOf atype) ≤ 536870912 := Nat.le_trans (Nat.mul_le_mul_left N hcb) hN
  refine va_newaK P.x P.b (P.w _ hw) rfl hd rfl (fun q => by have := Int32.lt_iff_toInt_lt.mp q; simp at this; omega) (z_clamp hx) hb (by have := P.2.1.2.2.1; omega) (by have := P.2.1.2.2.2; omega) rfl fun H1 cA c1 z1 o1 hAr hNm => ?_
  have hcA : cA = G.2.1 t := Option.some.inj (hNm.symm.trans (hra s _ (hK.2 t _ (ht G.2.1)).2))
  subst hcA
  refine k2 H1 ?_ z1 o1
  show H1[H.size]? = some (vp_cell (G.2.1 t) (zcA _ e1))
  rw [he]
  exact c1
theorem z_newI {a : zAd} {N : Nat} {x : Int32} (hd : zD Y pc 2 (.newarray .int) n) (hw : Cond.arrayClass .int ∈ zTW) (hx : x.toInt = (N : Int)) (hN : N * 8 ≤ 536870912) (hM : M a = none) (ha : 2 ≤ a.1) (kk : zV Y fr cm sm n ls (zr a :: st) (zupd M a (.inl (0, N, .inl fun _ => 0))) Q) : zV Y fr (cm + 1) (sm + N) pc ls (zi x :: st) M Q :=
  z_newaG (t := 0) (e1 := (N, .inl fun _ => 0)) hd rfl hw hx hN hM ha (fun _ => rfl) (fun _ _ h => h) (by decide) (fun _ _ => rfl) trivial kk
theorem z_newJ {a : zAd} {N : Nat} {x : Int32} (hd : zD Y pc 2 (.newarray .long) n) (hw : Cond.arrayClass .long ∈ zTW) (hx : x.toInt = (N : Int)) (hN : N * 8 ≤ 536870912) (hM : M a = none) (ha : 2 ≤ a.1) (kk : zV Y fr cm sm n ls (zr a :: st) (zupd M a (.inl (1, N, .inr (.inl fun _ => 0)))) Q) : zV Y fr (cm + 1) (sm + N) pc ls (zi x :: st) M Q :=
  z_newaG (t := 1) (e1 := (N, .inr (.inl fun _ => 0))) hd rfl hw hx hN hM ha (fun _ => rfl) (fun _ _ h => h) (by decide) (fun _ _ => rfl) trivial kk
theorem z_newB {a : zAd} {N : Nat} {x : Int32} (hd : zD Y pc 2 (.newarray .byte) n) (hw : Cond.arrayClass .byte ∈ zTW) (hx : x.toInt = (N : Int)) (hN : N * 8 ≤ 536870912) (hM : M a = none) (ha : 2 ≤ a.1) (kk : zV Y fr cm sm n ls (zr a :: st) (zupd M a (.inl (2, N, .inl fun _ => 0))) Q) : zV Y fr (cm + 1) (sm + N) pc ls (zi x :: st) M Q :=
  z_newaG (t := 2) (e1 := (N, .inl fun _ => 0)) hd rfl hw hx hN hM ha (fun _ => rfl) (fun _ _ h => h) (by decide) (fun _ _ => rfl) trivial kk
theorem z_newZ {a : zAd} {N : Nat} {x : Int32} (hd : zD Y pc 2 (.newarray .boolean) n) (hw : Cond.arrayClass .boolean ∈ zTW) (hx : x.toInt = (N : Int)) (hN : N * 8 ≤ 536870912) (hM : M a = none) (ha : 2 ≤ a.1) (kk : zV Y fr cm sm n ls (zr a :: st) (zupd M a (.inl (3, N, .inl fun _ => 0))) Q) : zV Y fr (cm + 1) (sm + N) pc ls (zi x :: st) M Q :=
  z_newaG (t := 3) (e1 := (N, .inl fun _ => 0)) hd rfl hw hx hN hM ha (fun _ => rfl) (fun _ _ h => h) (by decide) (fun _ _ => rfl) trivial kk
def zNA (Y : zY) (pc t : Nat) (n : Nat) : Prop := ∃ (idx : Nat) (C : String), C ∈ zAO ∧ (∀ dA, (zTyL dA)[t]? = some (dA t, .object C)) ∧ decode Y.2.1 pc = .ok (.anewarray idx, 3) ∧ pc + 3 = n ∧ Cond.classLink Y.1.cls idx C ∈ zTW
theorem z_newA {a : zAd} {t N : Nat} {x : Int32} (hd : zNA Y pc t n) (hx : x.toInt = (N : Int)) (hN : N * 4 ≤ 536870912) (hM : M a = none) (ha : 2 ≤ a.1) (kk : zV Y fr cm sm n ls (zr a :: st) (zupd M a (.inl (t, N, .inr (.inr fun _ => none)))) Q) : zV Y fr (cm + 1) (sm + N) pc ls (zi x :: st) M Q := by
  obtain ⟨idx, C, hC, ht, hd, rfl, w1⟩ := hd
  refine z_make hM ha kk (fun h => h.t) (fun i b _ h => by cases h) (fun {G p l e s m args below meth c H locs cells slots θ0 M0 θ lsA R Z} P k2 => ?_)
  have hKK := P.1.2.2.2.2.2.2.2.2.1
  have hcl := z_clamp hx
  refine W.anew P.x P.b P.o (P.w _ w1) (va_AO.use (hKK.2.2.1 C hC)) rfl hd rfl (fun q => by have := Int32.lt_iff_toInt_lt.mp q; simp at this; omega) (by rw [hcl]; exact hN) (by have := P.2.1.2.2.1; omega) (by rw [hcl]; have := P.2.1.2.2.2; omega) fun cA kA comp h1 h2 h3 h4 => ?_
  have hcA : cA = G.2.1 t := by
    obtain ⟨_, _, -, -, -, k4⟩ := (hKK.1.2 t _ (ht G.2.1)).2
    exact Option.some.inj (h1.symm.trans k4)
  subst hcA
  rw [hcl]
  refine k2 _ ?_ (by simp) (fun q hq => by rw [Array.getElem?_push, if_neg (Nat.ne_of_lt hq)])
  show _ = some (arrV (G.2.1 t) N (fun _ => .null))
  rw [← arrV_new]
  simp
end ZH
