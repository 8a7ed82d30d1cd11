/-! how the class holds the state -/
abbrev zTR : Type := (Nat → Int32) → Int32 → (Nat → Int32) → (Nat → Int32) → Int32 → Int32 → Prop
abbrev zJR : Type := Int32 → (Nat → Int32) → (Nat → Int32) → (Nat → Nat → Int32) → Prop
def xObj (I : zSI) : List zVal := [zr (3, 0), zr (4, 0), zr (5, 0), zr (6, 0), zr (7, 0), zr (8, 0), zr (9, 0), zr (10, 0), zr (11, 0), zr (12, 0), zr (13, 0), zi (I 0), zi (I 1), zi (I 8), zi (I 5), zi (I 6)]
/-- references to the first n of a kind -/
def xRefs (k : Nat) (n : Int32) : Nat → Option zAd := fun e => if (e : Int) < n.toInt then some (k, e) else none
def xEdge (A : zSA) (L : zSL) (e : Nat) : List zVal := [zi (A 0 e), zi (A 2 e), zi (A 4 e), zr (29, e), zi (A 11 e), zi (A 1 e), zi (A 3 e), zi (A 5 e), zi (A 6 e), zi (A 7 e), zi (A 8 e), zi (A 9 e), zl (L e)]
def xTool (A : zSA) (t : Nat) : List zVal := [zi (A 12 t), zi (A 13 t), zr (28, zN (A 13 t)), zi (A 14 t), zi (A 15 t), zi (A 16 t), zi (A 17 t), zi (A 18 t)]
def xMach (A : zSA) (m : Nat) : List zVal := [zi (A 22 m), zi (A 23 m), zr (32, m)]
def xCore (M : zM) (I : zSI) : Prop := M (2, 0) = some (.inr (10, xObj I)) ∧ M (3, 0) = some (.inl (4, 24, .inr (.inr (xRefs 28 (I 0))))) ∧ M (4, 0) = some (.inl (5, 10, .inr (.inr (xRefs 30 (I 1))))) ∧ M (5, 0) = some (.inl (6, 3, .inr (.inr (xRefs 31 (I 8))))) ∧ M (6, 0) = some (.inl (7, 6, .inr (.inr fun t => some (23, t)))) ∧ M (7, 0) = some (.inl (8, 4, .inr (.inr fun s => some (26, s)))) ∧ M (8, 0) = some (.inr (4, [zi (I 2), zi (I 3), zi (I 4)]))
def xEd (M : zM) (I : zSI) (A : zSA) (L : zSL) : Prop := (∀ e : Nat, (e : Int) < (I 0).toInt → M (28, e) = some (.inr (0, xEdge A L e)) ∧ ∃ f, M (29, e) = some (.inl (0, 8, .inl f)) ∧ ∀ j : Nat, (j : Int) < (A 11 e).toInt → f j = A 10 (8 * e + j)) ∧ ∀ e : Nat, (I 0).toInt ≤ e → M (28, e) = none ∧ M (29, e) = none
def xTo (M : zM) (I : zSI) (A : zSA) : Prop := (∀ t : Nat, (t : Int) < (I 1).toInt → M (30, t) = some (.inr (9, xTool A t))) ∧ ∀ t : Nat, (I 1).toInt ≤ t → M (30, t) = none
def xMa (M : zM) (I : zSI) (A : zSA) : Prop := (∀ m : Nat, (m : Int) < (I 8).toInt → M (31, m) = some (.inr (2, xMach A m)) ∧ ∃ f, M (32, m) = some (.inl (0, 16, .inl f)) ∧ ∀ j : Nat, j < 16 → f j = A 24 (16 * m + j)) ∧ ∀ m : Nat, (I 8).toInt ≤ m → M (31, m) = none ∧ M (32, m) = none
def xSh (M : zM) (A : zSA) : Prop := ∀ s : Nat, s < 4 → ∃ so sz f, M (26, s) = some (.inr (5, [zi so, zi sz, zr (27, s)])) ∧ M (27, s) = some (.inl (0, 40, .inl f)) ∧ (A 26 s = 1 → so = A 27 s ∧ sz = A 28 s ∧ ∀ j : Nat, (j : Int) < sz.toInt → f j = A 29 (40 * s + j)) ∧ (A 26 s ≠ 1 → so = -1 ∧ sz = 0)
def xTx (TR : zTR) (M : zM) (I : zSI) (A : zSA) : Prop := ∀ t : Nat, t < 6 → ∃ f g sz cl, M (23, t) = some (.inr (8, [zr (24, t), zr (25, t), zi sz, zi cl])) ∧ M (24, t) = some (.inl (0, 160, .inl f)) ∧ M (25, t) = some (.inl (0, 3, .inl g)) ∧ ((t : Int) < (I 5).toInt → TR (fun j => A 19 (160 * t + j)) (A 20 t) f g sz cl)
def xTa (M : zM) (I : zSI) (A : zSA) : Prop := (∃ tc f g h, M (10, 0) = some (.inr (7, [zr (19, 0), zr (20, 0), zr (21, 0), zi (I 7), zi tc])) ∧ M (19, 0) = some (.inl (2, 160, .inl f)) ∧ M (20, 0) = some (.inl (0, 160, .inl g)) ∧ M (21, 0) = some (.inl (0, 160, .inl h)) ∧ ∀ j : Nat, (j : Int) < (I 7).toInt → f j = (A 21 j).toInt8.toInt32 ∧ (0 ≤ (A 21 j).toInt ∧ (A 21 j).toInt ≤ 255))
def xSt (M : zM) : Prop := (∃ (o : Option zAd) (a b c : Int32), M (11, 0) = some (.inr (3, [zr (10, 0), .inr (.inr o), zi a, zi b, zi c]))) ∧ (∃ (h : Int32) (f : Nat → Int32), M (12, 0) = some (.inr (6, [zr (22, 0), zi h])) ∧ M (22, 0) = some (.inl (0, 64, .inl f))) ∧ ∃ f : Nat → Int32, M (13, 0) = some (.inl (0, 6, .inl f))
def xJo (JR : zJR) (M : zM) (I : zSI) (A : zSA) : Prop := ∃ (row fw : Nat → Int32) (b : Nat → Nat → Int32), M (9, 0) = some (.inr (1, [zi (I 9), zr (14, 0), zr (15, 0), zr (16, 0), zr (17, 0)])) ∧ M (14, 0) = some (.inl (0, 6, .inl (A 25))) ∧ M (15, 0) = some (.inl (0, 6, .inl row)) ∧ M (16, 0) = some (.inl (0, 10, .inl fw)) ∧ M (17, 0) = some (.inl (9, 10, .inr (.inr fun r => some (18, r)))) ∧ (∀ r : Nat, r < 10 → M (18, r) = some (.inl (0, 6, .inl (b r)))) ∧ JR (I 9) (A 25) fw b
/-- the class's cells -/
def RepX (TR : zTR) (JR : zJR) (M : zM) (I : zSI) (A : zSA) (L : zSL) : Prop := xCore M I ∧ xEd M I A L ∧ xTo M I A ∧ xMa M I A ∧ xSh M A ∧ xTx TR M I A ∧ xTa M I A ∧ xSt M ∧ xJo JR M I A
theorem xCore.fr {M M' : zM} {I : zSI} (h : xCore M I) (hf : ∀ k, 2 ≤ k → k ≤ 8 → M' (k, 0) = M (k, 0)) : xCore M' I :=
  ⟨(hf 2 (by decide) (by decide)).trans h.1, (hf 3 (by decide) (by decide)).trans h.2.1, (hf 4 (by decide) (by decide)).trans h.2.2.1, (hf 5 (by decide) (by decide)).trans h.2.2.2.1, (hf 6 (by decide) (by decide)).trans h.2.2.2.2.1, (hf 7 (by decide) (by decide)).trans h.2.2.2.2.2.1, (hf 8 (by decide) (by decide)).trans h.2.2.2.2.2.2⟩
theorem xEd.fr {M M' : zM} {I : zSI} {A : zSA} {L : zSL} (h : xEd M I A L) (h8 : ∀ e, M' (28, e) = M (28, e)) (h9 : ∀ e, M' (29, e) = M (29, e)) : xEd M' I A L := by
  refine ⟨fun e he => ?_, fun e he => ?_⟩
  · rw [h8, h9]; exact h.1 e he
  · rw [h8, h9]; exact h.2 e he
theorem xTo.fr {M M' : zM} {I : zSI} {A : zSA} (h : xTo M I A) (h8 : ∀ e, M' (30, e) = M (30, e)) : xTo M' I A := by
  refine ⟨fun e he => ?_, fun e he => ?_⟩
  · rw [h8]; exact h.1 e he
  · rw [h8]; exact h.2 e he
theorem xMa.fr {M M' : zM} {I : zSI} {A : zSA} (h : xMa M I A) (h8 : ∀ e, M' (31, e) = M (31, e)) (h9 : ∀ e, M' (32, e) = M (32, e)) : xMa M' I A := by
  refine ⟨fun e he => ?_, fun e he => ?_⟩
  · rw [h8, h9]; exact h.1 e he
  · rw [h8, h9]; exact h.2 e he
theorem xSh.fr {M M' : zM} {A : zSA} (h : xSh M A) (h8 : ∀ e, M' (26, e) = M (26, e)) (h9 : ∀ e, M' (27, e) = M (27, e)) : xSh M' A := by
  intro s hs
  rw [h8, h9]; exact h s hs
theorem xTx.fr {TR : zTR} {M M' : zM} {I : zSI} {A : zSA} (h : xTx TR M I A) (h8 : ∀ e, M' (23, e) = M (23, e)) (h9 : ∀ e, M' (24, e) = M (24, e)) (h7 : ∀ e, M' (25, e) = M (25, e)) : xTx TR M' I A := by
  intro s hs
  rw [h8, h9, h7]; exact h s hs
theorem xTa.fr {M M' : zM} {I : zSI} {A : zSA} (h : xTa M I A) (h1 : M' (10, 0) = M (10, 0)) (h2 : M' (19, 0) = M (19, 0)) (h3 : M' (20, 0) = M (20, 0)) (h4 : M' (21, 0) = M (21, 0)) : xTa M' I A := by
  unfold xTa
  rw [h1, h2, h3, h4]; exact h
theorem xSt.fr {M M' : zM} (h : xSt M) (h1 : M' (11, 0) = M (11, 0)) (h2 : M' (12, 0) = M (12, 0)) (h3 : M' (22, 0) = M (22, 0)) (h4 : M' (13, 0) = M (13, 0)) : xSt M' := by
  unfold xSt
  rw [h1, h2, h3, h4]
  exact h
theorem xJo.fr {JR : zJR} {M M' : zM} {I : zSI} {A : zSA} (h : xJo JR M I A) (h9 : M' (9, 0) = M (9, 0)) (h4 : M' (14, 0) = M (14, 0)) (h5 : M' (15, 0) = M (15, 0)) (h6 : M' (16, 0) = M (16, 0)) (h7 : M' (17, 0) = M (17, 0)) (h8 : ∀ r, M' (18, r) = M (18, r)) : xJo JR M' I A := by
  unfold xJo
  simp only [h9, h4, h5, h6, h7, h8]
  exact h
/-- the class's cells are those of the kinds 2 .. 39 -/
theorem RepX.frame {TR : zTR} {JR : zJR} {M M' : zM} {I : zSI} {A : zSA} {L : zSL} (h : RepX TR JR M I A L) (hf : ∀ a : zAd, 2 ≤ a.1 → a.1 < 40 → M' a = M a) : RepX TR JR M' I A L := by
  obtain ⟨h1, h2, h3, h4, h5, h6, h7, h8, h9⟩ := h
  refine ⟨h1.fr fun k g1 g2 => hf (k, 0) g1 (show k < 40 by omega), h2.fr (fun e => hf _ (show 2 ≤ 28 by decide) (show 28 < 40 by decide)) (fun e => hf _ (show 2 ≤ 29 by decide) (show 29 < 40 by decide)), h3.fr (fun e => hf _ (show 2 ≤ 30 by decide) (show 30 < 40 by decide)), h4.fr (fun e => hf _ (show 2 ≤ 31 by decide) (show 31 < 40 by decide)) (fun e => hf _ (show 2 ≤ 32 by decide) (show 32 < 40 by decide)), h5.fr (fun e => hf _ (show 2 ≤ 26 by decide) (show 26 < 40 by decide)) (fun e => hf _ (show 2 ≤ 27 by decide) (show 27 < 40 by decide)), h6.fr (fun e => hf _ (show 2 ≤ 23 by decide) (show 23 < 40 by decide)) (fun e => hf _ (show 2 ≤ 24 by decide) (show 24 < 40 by decide)) (fun e => hf _ (show 2 ≤ 25 by decide) (show 25 < 40 by decide)), h7.fr (hf _ (by decide) (by decide)) (hf _ (by decide) (by decide)) (hf _ (by decide) (by decide)) (hf _ (by decide) (by decide)), h8.fr (hf _ (by decide) (by decide)) (hf _ (by decide) (by decide)) (hf _ (by decide) (by decide)) (hf _ (by decide) (by decide)), h9.fr (hf _ (by decide) (by decide)) (hf _ (by decide) (by decide)) (hf _ (by decide) (by decide)) (hf _ (by decide) (by decide)) (hf _ (by decide) (by decide)) (fun e => hf _ (show 2 ≤ 18 by decide) (show 18 < 40 by decide))⟩
/-- how a call of the class's ends -/
def zEX (TR : zTR) (JR : zJR) (M : zM) (x : Int32) (r : zRes) (M' : zM) : Prop := x = r.1 ∧ (∀ a : zAd, (a.1 < 2 ∨ 40 ≤ a.1) → M' a = M a) ∧ RepX TR JR M' r.2.1 r.2.2.1 r.2.2.2
theorem zEX.rd {TR : zTR} {JR : zJR} {M : zM} {I : zSI} {A : zSA} {L : zSL} (h : RepX TR JR M I A L) {x : Int32} : zEX TR JR M x (x, I, A, L) M := ⟨rfl, fun _ _ => rfl, h⟩
theorem zEX.wr {TR : zTR} {JR : zJR} {M M' : zM} {I : zSI} {A : zSA} {L : zSL} (h : RepX TR JR M' I A L) (hf : ∀ a : zAd, (a.1 < 2 ∨ 40 ≤ a.1) → M' a = M a) {x : Int32} : zEX TR JR M x (x, I, A, L) M' := ⟨rfl, hf, h⟩
theorem zfx_nil {M : zM} : ∀ a : zAd, (a.1 < 2 ∨ 40 ≤ a.1) → M a = M a := fun _ _ => rfl
theorem zfx {M M' : zM} (h : ∀ a : zAd, (a.1 < 2 ∨ 40 ≤ a.1) → M' a = M a) {b : zAd} {e : zE} (hb : 2 ≤ b.1 ∧ b.1 < 40) : ∀ a : zAd, (a.1 < 2 ∨ 40 ≤ a.1) → zupd M' b e a = M a := fun a ha => (zupd_k (by omega)).trans (h a ha)
/-- the invariant of the law's loop -/
def zInv (TR : zTR) (JR : zJR) (M : zM) : Prop := ∃ I A L J K, Val I A L ∧ RepX TR JR M I A L ∧ RepM M I A L J K
def eqA (A A' : zSA) : Prop := ∀ k, k < 30 → A' k = A k
theorem RepX.congr {TR : zTR} {JR : zJR} {M : zM} {I : zSI} {A A' : zSA} {L : zSL} (h : RepX TR JR M I A L) (hA : eqA A A') : RepX TR JR M I A' L := by
  obtain ⟨h1, h2, h3, h4, h5, h6, h7, h8, h9⟩ := h
  have q := fun k hk => (hA k hk).symm
  have q0 := q 0 (by decide); have q1 := q 1 (by decide); have q2 := q 2 (by decide); have q3 := q 3 (by decide); have q4 := q 4 (by decide); have q5 := q 5 (by decide); have q6 := q 6 (by decide); have q7 := q 7 (by decide); have q8 := q 8 (by decide); have q9 := q 9 (by decide)
  have q10 := q 10 (by decide); have q11 := q 11 (by decide); have q12 := q 12 (by decide); have q13 := q 13 (by decide); have q14 := q 14 (by decide); have q15 := q 15 (by decide); have q16 := q 16 (by decide); have q17 := q 17 (by decide); have q18 := q 18 (by decide); have q19 := q 19 (by decide)
  have q20 := q 20 (by decide); have q21 := q 21 (by decide); have q22 := q 22 (by decide); have q23 := q 23 (by decide); have q24 := q 24 (by decide); have q25 := q 25 (by decide); have q26 := q 26 (by decide); have q27 := q 27 (by decide); have q28 := q 28 (by decide); have q29 := q 29 (by decide)
  refine ⟨h1, ?_, ?_, ?_, ?_, ?_, ?_, h8, ?_⟩
  · simp only [xEd, xEdge, q0, q1, q2, q3, q4, q5, q6, q7, q8, q9, q10, q11] at h2; exact h2
  · simp only [xTo, xTool, q12, q13, q14, q15, q16, q17, q18] at h3; exact h3
  · simp only [xMa, xMach, q22, q23, q24] at h4; exact h4
  · simp only [xSh, q26, q27, q28, q29] at h5; exact h5
  · simp only [xTx, q19, q20] at h6; exact h6
  · simp only [xTa, q21] at h7; exact h7
  · simp only [xJo, q25] at h9; exact h9
theorem Val.congr {I : zSI} {A A' : zSA} {L : zSL} (h : Val I A L) (hA : eqA A A') : Val I A' L := by
  have q := fun k hk => (hA k hk).symm
  have q0 := q 0 (by decide); have q1 := q 1 (by decide); have q4 := q 4 (by decide); have q5 := q 5 (by decide); have q22 := q 22 (by decide); have q11 := q 11 (by decide); have q13 := q 13 (by decide); have q14 := q 14 (by decide); have q17 := q 17 (by decide); have q18 := q 18 (by decide); have q20 := q 20 (by decide); have q23 := q 23 (by decide); have q24 := q 24 (by decide); have q25 := q 25 (by decide); have q26 := q 26 (by decide); have q27 := q 27 (by decide); have q28 := q 28 (by decide)
  simp only [Val, q0, q1, q4, q5, q22, q11, q13, q14, q17, q18, q20, q23, q24, q25, q26, q27, q28] at h
  exact h
/-- a load of a reference that may be null -/
theorem z_alo {Y : zY} {fr cm sm pc n : Nat} {ls : zLs} {st : List zVal} {M : zM} {Q : Option zVal → zM → Prop} {i : Nat} {x : Option zAd} (hd : zAl Y pc i n) (hl : ls i = some (.inr (.inr x))) (k : zV Y fr cm sm n ls (.inr (.inr x) :: st) M Q) : zV Y fr cm sm pc ls st M Q := by
  cases x with
  | some a => exact z_al hd hl k
  | none =>
    rcases hd with ⟨k0, hi, hd, rfl⟩ | ⟨hd, rfl⟩
    · exact z_pure k (fun P kk => lv_aload_nN P.x P.b hd hi (P.L.2.2 _ _ hl).1 (kk _ P.L (okS.c trivial P.sk)))
    · exact z_pure k (fun P kk => lv_aloadN P.x P.b hd (P.L.2.2 _ _ hl).1 (kk _ P.L (okS.c trivial P.sk)))
