theorem ma_congr {cA : ClassId} {N : Nat} {f g : Nat → Value} (h : ∀ j, j < N → f j = g j) : arrV cA N f = arrV cA N g := by
  unfold arrV
  congr 2
  funext j
  exact h j.val j.isLt
/-- the abstract memory and the addresses behind i rows -/
def maR (i : Nat) : Nat → Option zAd := fun j => if j < i ∨ 10 ≤ j then some (18, j) else none
def maM (M : zM) : Nat → zM
  | 0 => zupd M (17, 0) (.inl (9, 10, .inr (.inr (maR 0))))
  | i + 1 => zupd (zupd (maM M i) (18, i) (.inl (0, 6, .inl fun _ => 0))) (17, 0) (.inl (9, 10, .inr (.inr (maR (i + 1)))))
def maT (θ : zAd → Nat) (h : Nat) : Nat → zAd → Nat
  | 0 => fun x => if x = (17, 0) then h else θ x
  | i + 1 => fun x => if x = (18, i) then h + 1 + i else maT θ h i x
theorem maM_17 {M : zM} : ∀ i, maM M i (17, 0) = some (.inl (9, 10, .inr (.inr (maR i))))
  | 0 => zupd_s
  | _ + 1 => zupd_s
theorem maM_18 {M : zM} {j : Nat} : ∀ i, maM M i (18, j) = if j < i then some (.inl (0, 6, .inl fun _ => 0)) else M (18, j)
  | 0 => (zupd_k (by decide : (18 : Nat) ≠ 17)).trans (if_neg (Nat.not_lt_zero j)).symm
  | i + 1 => by
    refine (zupd_k (by decide : (18 : Nat) ≠ 17)).trans ?_
    by_cases q : j = i
    · subst q
      rw [zupd_s, if_pos (by omega)]
    · rw [zupd_i q, maM_18 i]
      by_cases q2 : j < i
      · rw [if_pos q2, if_pos (by omega)]
      · rw [if_neg q2, if_neg (by omega)]
theorem maM_n {M : zM} {a : zAd} (h1 : a.1 ≠ 17) (h2 : a.1 ≠ 18) : ∀ i, maM M i a = M a
  | 0 => zupd_k h1
  | i + 1 => (zupd_k h1).trans ((zupd_k h2).trans (maM_n h1 h2 i))
theorem maT_17 {θ : zAd → Nat} {h : Nat} : ∀ i, maT θ h i (17, 0) = h
  | 0 => by
    show (if ((17, 0) : zAd) = (17, 0) then h else θ (17, 0)) = h
    exact if_pos rfl
  | i + 1 => by
    show (if ((17, 0) : zAd) = (18, i) then h + 1 + i else maT θ h i (17, 0)) = h
    rw [if_neg (fun q => absurd (congrArg Prod.fst q) (by decide : (17 : Nat) ≠ 18))]
    exact maT_17 i
theorem maT_18 {θ : zAd → Nat} {h j : Nat} : ∀ i, j < i → maT θ h i (18, j) = h + 1 + j
  | 0, q => absurd q (Nat.not_lt_zero j)
  | i + 1, q => by
    show (if ((18, j) : zAd) = (18, i) then h + 1 + i else maT θ h i (18, j)) = h + 1 + j
    by_cases z : j = i
    · subst z; exact if_pos rfl
    · rw [if_neg (fun y => z (congrArg Prod.snd y))]
      exact maT_18 i (by omega)
theorem maR_10 : maR 10 = fun j => some (18, j) := by
  funext j
  exact if_pos (by omega)
/-- the outer row, as the memory has it -/
theorem maO_c {cA : ClassId} {θ : zAd → Nat} {h i k : Nat} (hik : i ≤ k) : maO cA h i = vp_cell cA (zcA (maT θ h k) (10, .inr (.inr (maR i)))) := by
  show arrV cA 10 (fun j => if j < i then Value.ref (h + 1 + j) else Value.null) = arrV cA 10 (fun j => va_rf ((maR i j).map (maT θ h k)))
  refine ma_congr (fun j hj => ?_)
  show (if j < i then Value.ref (h + 1 + j) else Value.null) = va_rf ((maR i j).map (maT θ h k))
  unfold maR
  by_cases q : j < i
  · rw [if_pos q, if_pos (Or.inl q)]
    show _ = Value.ref (maT θ h k (18, j))
    rw [maT_18 k (by omega)]
  · rw [if_neg q, if_neg (fun z => by omega)]
    rfl
theorem maR_ok {M : zM} {i : Nat} (hi : i ≤ 10) : okE (maM M i) (.inl (9, 10, .inr (.inr (maR i)))) := fun j a hj ha => by
  unfold maR at ha
  by_cases q : j < i
  · rw [if_pos (Or.inl q)] at ha
    cases ha
    rw [maM_18 i, if_pos q]
    exact fun z => by cases z
  · rw [if_neg (fun z => by omega)] at ha
    cases ha
theorem ma_R {G : zG} {θ : zAd → Nat} {M : zM} {T : State} (h : zR G θ M T.heap) (hb : G.2.2.1 ≤ T.heap.size) (h17 : M (17, 0) = none) (h18 : ∀ i, i < 10 → M (18, i) = none) : ∀ i, i ≤ 10 → zR G (maT θ T.heap.size i) (maM M i) (maS (G.2.1 9) (G.2.1 0) T i).heap ∧ zExt θ M (maT θ T.heap.size i) (maM M i)
  | 0, _ => by
    refine h.new h17 (by decide) hb ?_ (fun q hq => maS_old _ _ _ hq 0) (maR_ok (by decide))
    show (maS (G.2.1 9) (G.2.1 0) T 0).heap[T.heap.size]? = some (vp_cell (G.2.1 9) (zcA (maT θ T.heap.size 0) (10, .inr (.inr (maR 0)))))
    rw [← maO_c (Nat.le_refl 0)]
    exact (maS_f _ _ T 0).2.1
  | i + 1, hi => by
    obtain ⟨g1, g2⟩ := ma_R h hb h17 h18 i (by omega)
    obtain ⟨f1, f2, f3, f4⟩ := maS_f (G.2.1 9) (G.2.1 0) T i
    have hlt0 : T.heap.size < (maS (G.2.1 9) (G.2.1 0) T i).heap.size := by omega
    have n18 : maM M i (18, i) = none := by rw [maM_18 i, if_neg (Nat.lt_irrefl i)]; exact h18 i (by omega)
    obtain ⟨k1, k2⟩ := g1.new (H1 := ((maS (G.2.1 9) (G.2.1 0) T i).pushCell (maI (G.2.1 0))).heap) (e1 := .inl (0, 6, .inl fun _ => 0)) n18 (show 2 ≤ 18 by decide) (by omega) (by
      show ((maS (G.2.1 9) (G.2.1 0) T i).pushCell (maI (G.2.1 0))).heap[(maS (G.2.1 9) (G.2.1 0) T i).heap.size]? = some (maI (G.2.1 0))
      exact State.heap_pushCell_size _ _) (fun q hq => State.heap_pushCell_of_lt (h := hq) _ _) trivial
    have eT : (fun x => if x = (18, i) then (maS (G.2.1 9) (G.2.1 0) T i).heap.size else maT θ T.heap.size i x) = maT θ T.heap.size (i + 1) := by
      rw [f1]; rfl
    rw [eT] at k1 k2
    have hok : okE (zupd (maM M i) (18, i) (.inl (0, 6, .inl fun _ => 0))) (.inl (9, 10, .inr (.inr (maR (i + 1))))) := fun j a hj ha => by
      have z := maR_ok (M := M) hi j a hj ha
      have ha' := ha
      unfold maR at ha'
      by_cases q : j < i + 1
      · rw [if_pos (Or.inl q)] at ha'
        cases ha'
        intro z2
        exact z ((zupd_k (by decide : (18 : Nat) ≠ 17)).trans z2)
      · rw [if_neg (fun z => by omega)] at ha'
        cases ha'
    refine ⟨k1.set (a := (17, 0)) ((zupd_k (by decide : (17 : Nat) ≠ 18)).trans (maM_17 i)) (by decide) ?_ (fun q hq => ?_) hok, g2.tr (k2.tr ⟨zDom.upd, fun _ _ => rfl⟩)⟩
    · show (maS (G.2.1 9) (G.2.1 0) T (i + 1)).heap[maT θ T.heap.size (i + 1) (17, 0)]? = some (vp_cell (G.2.1 9) (zcA (maT θ T.heap.size (i + 1)) (10, .inr (.inr (maR (i + 1))))))
      rw [maT_17, ← maO_c (Nat.le_refl (i + 1))]
      exact (maS_f _ _ T (i + 1)).2.1
    · rw [maT_17] at hq
      rw [← maS_next]
      exact State.heap_setCell_other (Ne.symm hq)
section MC
variable {Y : zY} {fr cm sm pc n : Nat} {ls : zLs} {st : List zVal} {M : zM} {Q : Option zVal → zM → Prop}
theorem z_grid (hd : zMa Y pc n) (h17 : M (17, 0) = none) (h18 : ∀ i, i < 10 → M (18, i) = none) (kk : zV Y fr cm sm n ls (zr (17, 0) :: st) (maM M 10) Q) : zV Y fr (cm + 11) (sm + 70) pc ls (zi 6 :: zi 10 :: st) M Q := by
  obtain ⟨idx, hd, rfl, hl⟩ := hd
  obtain ⟨r, M', hq, hk⟩ := kk
  refine ⟨r, M', hq, fun {G p l e s m args below meth c H locs cells slots θ0 M0 θ lsA R} P => ?_⟩
  have hKK := P.1.2.2.2.2.2.2.2.2.1
  refine ma_W P.x P.b P.o (P.w _ hl) hKK.2.2.2.1 (P.w _ zac_int) rfl hd rfl (by have := P.2.1.2.2.1; omega) (by have := P.2.1.2.2.2; omega) (fun cA cI T0 hA hI hT0 => ?_)
  subst hT0
  have eA : cA = G.2.1 9 := Option.some.inj (hA.symm.trans (hKK.1.2 9 _ rfl).2)
  have eI : cI = G.2.1 0 := Option.some.inj (hI.symm.trans (hKK.1.2 0 _ rfl).2)
  subst eA; subst eI
  have hb : G.2.2.1 ≤ T0.heap.size := Nat.le_trans P.1.2.2.2.2.2.2.2.2.2.2 P.2.2.1.1
  obtain ⟨n1, n2⟩ := ma_R P.2.2.2.2.1 hb h17 h18 10 (Nat.le_refl 10)
  obtain ⟨f1, -, -, -⟩ := maS_f (G.2.1 9) (G.2.1 0) T0 10
  have hst2 := P.sk.t.t
  have h9 := hk (G := G) (p := p) (l := l) (e := e) (s := s) (m := m) (args := args) (below := below) (meth := meth) (c := c) (H := (maS (G.2.1 9) (G.2.1 0) T0 10).heap) (locs := locs) (cells := cells + 11) (slots := slots + 70) (θ0 := θ0) (M0 := M0) (θ := maT θ T0.heap.size 10) (lsA := lsA) (R := R)
    ⟨P.1, ⟨P.2.1.1, P.2.1.2.1, by have := P.2.1.2.2.1; omega, by have := P.2.1.2.2.2; omega⟩, ⟨by have := P.2.2.1.1; omega, fun q g1 g2 => (maS_old _ _ _ (Nat.lt_of_lt_of_le g1 P.2.2.1.1) 10).trans (P.2.2.1.2.1 q g1 g2), P.2.2.1.2.2⟩, P.2.2.2.1.tr n2, n1, P.L.ext n2,
      okS.c (Or.inr (by rw [maM_17]; exact fun z => by cases z)) (hst2.up n2.1)⟩
  rw [show cells + 11 + cm = cells + (cm + 11) by omega, show slots + 70 + sm = slots + (sm + 70) by omega] at h9
  have e2 : (zr (17, 0) :: st).map (zc (maT θ T0.heap.size 10)) = .ref T0.heap.size :: st.map (zc θ) := by
    rw [List.map_cons, zc.exts n2 hst2]
    show Value.ref (maT θ T0.heap.size 10 (17, 0)) :: _ = _
    rw [maT_17]
  rw [e2] at h9
  exact h9
end MC
