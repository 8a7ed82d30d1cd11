/-! THE STATE: numbers, rows of numbers, wear; and how the model holds it -/
abbrev zSI : Type := Nat → Int32
abbrev zSA : Type := Nat → Nat → Int32
abbrev zSL : Type := Nat → Int64
def mTy (k : Nat) : Nat := if k = 26 then 3 else 0
def mLen (k : Nat) : Nat := [24, 24, 24, 24, 24, 24, 24, 24, 24, 24, 192, 24, 10, 10, 10, 10, 10, 10, 10, 960, 6, 160, 3, 3, 48, 6, 4, 4, 4, 160, 6, 6].getD k 0
def mObj (I J : zSI) (K : Int64) : List zVal := [zi (J 0), zi (I 0), zr (41, 0), zr (41, 1), zr (41, 2), zr (41, 3), zr (41, 4), zr (41, 5), zr (41, 6), zr (42, 0), zr (41, 7), zr (41, 8), zr (41, 9), zr (41, 10), zr (41, 11), zi (I 1), zr (41, 12), zr (41, 13), zr (41, 14), zr (41, 15), zr (41, 16), zr (41, 17), zr (41, 18), zi (I 2), zi (I 3), zi (I 4), zr (41, 19), zr (41, 20), zi (I 5), zi (I 6), zr (41, 21), zi (I 7), zi (J 1), zi (J 2), zi (J 3), zi (J 4), zl K, zi (J 5), zi (J 6), zi (J 7), zi (J 8), zi (J 9), zi (J 10), zi (J 11), zi (J 12), zi (J 13), zi (J 14), zi (I 8), zr (41, 22), zr (41, 23), zr (41, 24), zi (I 9), zr (41, 25), zr (41, 30), zr (41, 31), zr (41, 26), zr (41, 27), zr (41, 28), zr (41, 29)]
/-- the model's cells -/
def RepM (M : zM) (I : zSI) (A : zSA) (L : zSL) (J : zSI) (K : Int64) : Prop :=
  M (40, 0) = some (.inr (11, mObj I J K)) ∧ (∀ k, k < 32 → M (41, k) = some (.inl (mTy k, mLen k, .inl (A k)))) ∧ M (42, 0) = some (.inl (1, 24, .inr (.inl L)))
theorem RepM.frame {M M' : zM} {I J : zSI} {A : zSA} {L : zSL} {K : Int64} (h : RepM M I A L J K) (hf : ∀ a : zAd, 40 ≤ a.1 → M' a = M a) : RepM M' I A L J K :=
  ⟨(hf (40, 0) (by decide)).trans h.1, fun k hk => (hf (41, k) (show 40 ≤ 41 by decide)).trans (h.2.1 k hk), (hf (42, 0) (by decide)).trans h.2.2⟩
theorem RepM.arr {M : zM} {I J : zSI} {A : zSA} {L : zSL} {K : Int64} (h : RepM M I A L J K) (k : Nat) (f : Nat → Int32) : RepM (zupd M (41, k) (.inl (mTy k, mLen k, .inl f))) I (zup A k f) L J K := by
  refine ⟨(zupd_k (by decide : (40 : Nat) ≠ 41)).trans h.1, fun i hi => ?_, (zupd_k (by decide : (42 : Nat) ≠ 41)).trans h.2.2⟩
  by_cases q : i = k
  · subst q
    rw [zupd_s, zup_s]
  · rw [zupd_i q, zup_n q]
    exact h.2.1 i hi
theorem RepM.obj {M : zM} {I J I' J' : zSI} {A : zSA} {L : zSL} {K K' : Int64} {fs : List zVal} (h : RepM M I A L J K) (he : fs = mObj I' J' K') : RepM (zupd M (40, 0) (.inr (11, fs))) I' A L J' K' := by
  subst he
  exact ⟨zupd_s, fun i hi => (zupd_k (by decide : (41 : Nat) ≠ 40)).trans (h.2.1 i hi), (zupd_k (by decide : (42 : Nat) ≠ 40)).trans h.2.2⟩
theorem RepM.wear {M : zM} {I J : zSI} {A : zSA} {L L' : zSL} {K : Int64} (h : RepM M I A L J K) : RepM (zupd M (42, 0) (.inl (1, 24, .inr (.inl L')))) I A L' J K :=
  ⟨(zupd_k (by decide : (40 : Nat) ≠ 42)).trans h.1, fun i hi => (zupd_k (by decide : (41 : Nat) ≠ 42)).trans (h.2.1 i hi), zupd_s⟩
abbrev zRes : Type := Int32 × zSI × zSA × zSL
/-- how a call of the model's ends -/
def zEM (M : zM) (x : Int32) (r : zRes) (M' : zM) : Prop := x = r.1 ∧ (∀ a : zAd, a.1 < 40 → M' a = M a) ∧ ∃ A' J' K', (∀ k, k < 30 → A' k = r.2.2.1 k) ∧ RepM M' r.2.1 A' r.2.2.2 J' K'
theorem zEM.rd {M : zM} {I J : zSI} {A : zSA} {L : zSL} {K : Int64} (h : RepM M I A L J K) {x : Int32} : zEM M x (x, I, A, L) M := ⟨rfl, fun _ _ => rfl, A, J, K, fun _ _ => rfl, h⟩
theorem zEM.wr {M M' : zM} {I J : zSI} {A : zSA} {L : zSL} {K : Int64} (h : RepM M' I A L J K) (hf : ∀ a : zAd, a.1 < 40 → M' a = M a) {x : Int32} : zEM M x (x, I, A, L) M' := ⟨rfl, hf, A, J, K, fun _ _ => rfl, h⟩
/-- what is written at a kind from 40 on is nothing to the others -/
theorem zfr_nil {M : zM} : ∀ a : zAd, a.1 < 40 → M a = M a := fun _ _ => rfl
theorem zfr {M M' : zM} (h : ∀ a : zAd, a.1 < 40 → M' a = M a) {b : zAd} {e : zE} (hb : 40 ≤ b.1) : ∀ a : zAd, a.1 < 40 → zupd M' b e a = M a := fun a ha => (zupd_k (by omega)).trans (h a ha)
/-- ranges: what every state keeps to -/
def zRg (x : Int32) (lo hi : Int) : Prop := lo ≤ x.toInt ∧ x.toInt ≤ hi
def Val (I : zSI) (A : zSA) (L : zSL) : Prop :=
  (zRg (I 0) 0 24 ∧ zRg (I 1) 0 10 ∧ zRg (I 5) 1 6 ∧ (0 ≤ (I 6).toInt ∧ (I 6).toInt < (I 5).toInt) ∧ zRg (I 7) 0 160 ∧ zRg (I 8) 0 3 ∧ zRg (I 9) 0 6) ∧
  (∀ e : Nat, (e : Int) < (I 0).toInt → zRg (A 0 e) 0 5 ∧ zRg (A 4 e) 1 999 ∧ zRg (A 11 e) 0 8 ∧ (0 ≤ (L e).toInt ∧ (L e).toInt ≤ 400000) ∧ (A 5 e = 0 → (L e).toInt < 100 * (A 4 e).toInt)) ∧
  (∀ t : Nat, (t : Int) < (I 1).toInt → (0 ≤ (A 13 t).toInt ∧ (A 13 t).toInt < (I 0).toInt) ∧ zRg (A 14 t) 1 3 ∧ (-1 ≤ (A 17 t).toInt ∧ (A 17 t).toInt < (I 8).toInt) ∧ (0 ≤ (A 17 t).toInt → 0 ≤ (A 18 t).toInt ∧ (A 18 t).toInt + (A 14 t).toInt ≤ (A 23 (A 17 t).toInt.toNat).toInt)) ∧
  (∀ m : Nat, (m : Int) < (I 8).toInt → zRg (A 23 m) 4 16 ∧ zRg (A 22 m) 1 20) ∧
  (∀ t : Nat, t < 6 → zRg (A 20 t) 0 160) ∧
  (∀ j : Nat, j < 6 → (j : Int) < (I 9).toInt → zRg (A 25 j) 1 1023) ∧
  (∀ s : Nat, s < 4 → (A 26 s = 0 ∨ A 26 s = 1) ∧ (A 26 s = 1 → zRg (A 27 s) 0 2 ∧ zRg (A 28 s) 0 40)) ∧
  (∀ q : Nat, 16 * (I 8).toInt ≤ q → q < 48 → A 24 q = -1)
