/-! literals *-/
def zLd (Y : zY) (pc k n : Nat) : Prop := ∃ (idx : Nat) (tx : String), (Y.1.cls, idx, tx, k) ∈ zStrs ∧ decode Y.2.1 pc = .ok (.ldc idx, 2) ∧ pc + 2 = n
def zMa (Y : zY) (pc n : Nat) : Prop := ∃ idx, decode Y.2.1 pc = .ok (.multianewarray idx 2, 4) ∧ pc + 4 = n ∧ Cond.classLink Y.1.cls idx "[[I" ∈ zTW
section ZM
variable {Y : zY} {fr cm sm pc n : Nat} {ls : zLs} {st : List zVal} {M : zM} {Q : Option zVal → zM → Prop}
theorem z_lds {k : Nat} (hd : zLd Y pc k n) (kk : zV Y fr cm sm n ls (zr (0, k) :: st) M Q) : zV Y fr cm sm pc ls st M Q := by
  obtain ⟨idx, tx, hm, hd, rfl⟩ := hd
  refine z_pure kk (fun {G p l e s m args below meth c H locs cells slots θ0 M0 θ lsA R Z} P k2 => ?_)
  have h2 := k2 _ P.L (okS.c (Or.inl rfl) P.sk)
  have h3 : vk_R Y.1.cls idx tx (G.2.2.2.1 k) s := P.1.2.2.2.2.2.2.2.2.1.2.2.2.2 _ hm
  have e1 : (zr (0, k) :: st).map (zc θ) = .ref (G.2.2.2.1 k) :: st.map (zc θ) := by
    rw [← P.2.2.2.2.1.2.2 k]
    rfl
  rw [e1] at h2
  exact va_ldcS P.x P.b P.o h3 hd h2
/-- less may be known of the cells in use -/
theorem zV.sub {ls2 : zLs} (hs : ∀ i v, ls2 i = some v → ls i = some v) (k : zV Y fr cm sm pc ls2 st M Q) : zV Y fr cm sm pc ls st M Q := by
  obtain ⟨r, M', hq, hk⟩ := k
  exact ⟨r, M', hq, fun P => hk ⟨P.1, P.2.1, P.2.2.1, P.2.2.2.1, P.2.2.2.2.1, ⟨P.L.1, P.L.2.1, fun i v hv => P.L.2.2 i v (hs i v hv)⟩, P.sk⟩⟩
def zSub (ls : zLs) : Nat → List (Option zVal) → Prop
  | _, [] => True
  | i, none :: l => zSub ls (i + 1) l
  | i, some v :: l => ls i = some v ∧ zSub ls (i + 1) l
theorem zSub.at {ls : zLs} : ∀ {l : List (Option zVal)} {i : Nat}, zSub ls i l → ∀ j v, l[j]? = some (some v) → ls (i + j) = some v
  | [], _, _, j, v, h => by simp at h
  | none :: l, i, hh, 0, v, h => by simp at h
  | none :: l, i, hh, j + 1, v, h => by
    rw [List.getElem?_cons_succ] at h
    have := zSub.at (l := l) (i := i + 1) hh j v h
    rwa [show i + (j + 1) = i + 1 + j by omega]
  | some w :: l, i, hh, 0, v, h => by
    simp at h
    subst h
    exact hh.1
  | some w :: l, i, hh, j + 1, v, h => by
    rw [List.getElem?_cons_succ] at h
    have := zSub.at (l := l) (i := i + 1) hh.2 j v h
    rwa [show i + (j + 1) = i + 1 + j by omega]
/-- the locals are brought into a list -/
theorem z_loc (L : List (Option zVal)) (hs : zSub ls 0 L) (k : zV Y fr cm sm pc (zL L) st M Q) : zV Y fr cm sm pc ls st M Q := by
  refine zV.sub (fun i v hv => ?_) k
  have h2 : L[i]? = some (some v) := by
    unfold zL at hv
    cases hx : L[i]? with
    | none => rw [hx] at hv; cases hv
    | some o => rw [hx] at hv; exact congrArg some hv
  have := zSub.at hs i v h2
  rwa [Nat.zero_add] at this
theorem zV.wide {cm2 sm2 : Nat} (h1 : cm ≤ cm2) (h2 : sm ≤ sm2) (k : zV Y fr cm sm pc ls st M Q) : zV Y fr cm2 sm2 pc ls st M Q := by
  obtain ⟨r, M', hq, hk⟩ := k
  refine ⟨r, M', hq, fun {G p l e s m args below meth c H locs cells slots θ0 M0 θ lsA R} P => ?_⟩
  have h9 := hk (G := G) (p := p) (l := l) (e := e) (s := s) (m := m) (args := args) (below := below) (meth := meth) (c := c) (H := H) (locs := locs) (cells := cells + (cm2 - cm)) (slots := slots + (sm2 - sm)) (θ0 := θ0) (M0 := M0) (θ := θ) (lsA := lsA) (R := R) ⟨P.1, ⟨P.2.1.1, P.2.1.2.1, by have := P.2.1.2.2.1; omega, by have := P.2.1.2.2.2; omega⟩, P.2.2⟩
  rw [show cells + (cm2 - cm) + cm = cells + cm2 by omega, show slots + (sm2 - sm) + sm = slots + sm2 by omega] at h9
  exact W.widen (by omega) (by omega) h9
end ZM
