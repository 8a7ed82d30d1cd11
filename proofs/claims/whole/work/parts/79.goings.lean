/-- what is there and how much was done behind the first i of the row's jobs -/
def chP (V : Nat → Nat) (N r : Nat) : Nat → Nat → Nat → Prop
  | 0, t, d => t = 0 ∧ d = 0
  | i + 1, t, d => ∃ t0 d0 E, chP V N r i t0 d0 ∧ d = d0 + zPop (mD (V i) t0) ∧ evP (fun f => nxF V f (N - (i + 1)) (i + 1)) (mD t0 (V i)) (zPop (t0 ||| V i) - r) E ∧ t = V i ||| E
theorem chP_1 {V : Nat → Nat} {N r : Nat} : ∀ {i t d t' d' : Nat}, chP V N r i t d → chP V N r i t' d' → t = t' ∧ d = d'
  | 0, _, _, _, _, h1, h2 => ⟨h1.1.trans h2.1.symm, h1.2.trans h2.2.symm⟩
  | i + 1, _, _, _, _, ⟨_, _, _, a1, a2, a3, a4⟩, ⟨_, _, _, b1, b2, b3, b4⟩ => by
    obtain ⟨e1, e2⟩ := chP_1 a1 b1
    subst e1; subst e2
    have e3 := evP_1 a3 b3
    subst e3
    exact ⟨a4.trans b4.symm, a2.trans b2.symm⟩
theorem mOr_D {w D : Nat} (h : ∀ f, D.testBit f = true → w.testBit f = false) : mD (w ||| D) w = D := mEq (fun f => by
  rw [mD_bit, Nat.testBit_or]
  have z := h f
  cases q : D.testBit f
  · cases w.testBit f <;> rfl
  · rw [z q]; rfl)
theorem mOr_P {w D g : Nat} (h : w.testBit g = false) : mD (w ||| D) (2 ^ g) = w ||| mD D (2 ^ g) := mEq (fun f => by
  rw [mD_bit, Nat.testBit_or, Nat.testBit_or, mD_bit, mPow_bit]
  by_cases z : g = f
  · subst z; rw [h]; simp
  · simp [z])
theorem mDw {t w f : Nat} (h : (mD t w).testBit f = true) : w.testBit f = false := (mD_i.mp h).2
theorem mOr_eq {t w : Nat} : t ||| w = w ||| mD t w := mEq (fun f => by
  rw [Nat.testBit_or, Nat.testBit_or, mD_bit]
  cases t.testBit f <;> cases w.testBit f <;> rfl)
theorem zPop_tw {t w : Nat} : zPop (t ||| w) = zPop w + zPop (mD t w) := zPop_or (fun f => by
  rw [Nat.testBit_or, mD_bit]
  cases t.testBit f <;> cases w.testBit f <;> rfl) (fun f hf => by rw [mD_bit, hf]; simp)
set_option maxRecDepth 20000 in
set_option maxHeartbeats 4000000 in
theorem l1_goings {fr : Nat} {M : zM} {Q : Option zVal → zM → Prop} {N : Nat} {W P : Nat → Nat} {r d : Int32} {w C i m : Nat} (hJ : jxR M N W P) (hf : 2 ≤ fr) (hi : i < N) (hw : w < 1024) (hC : C < 1024) (hCw : ∀ f, C.testBit f = true → w.testBit f = false) (hm : m ≤ zPop C) (KK : ∀ E, evP (fun f => nxF (fun i => W (P i)) f (N - (i + 1)) (i + 1)) C m E → zV zX1_changesOfRow fr 0 0 90 (zL [some (zr (9, 0)), some (zi r), some (zi (nI (w ||| E))), some (zi d), some (zi (nI i)), some (zi (nI w))]) [] M Q)  : ∀ (n k : Nat) (D : Nat) (ov : Int32), k + n = m → evP (fun f => nxF (fun i => W (P i)) f (N - (i + 1)) (i + 1)) C k D → ov.toInt.toNat = n → zV zX1_changesOfRow fr 0 0 60 (zL [some (zr (9, 0)), some (zi r), some (zi (nI (w ||| D))), some (zi d), some (zi (nI i)), some (zi (nI w)), some (zi ov)]) [] M Q := by
  intro n
  induction n with
  | zero =>
    intro k D ov hn hev hov
    obtain ⟨⟨jw, row, hjobs, hwa, hrow, hjw, hjr⟩, hN, hWl, hPl⟩ := hJ
    have hJ : jxR M N W P := ⟨⟨jw, row, hjobs, hwa, hrow, hjw, hjr⟩, hN, hWl, hPl⟩
    obtain ⟨f1, f2, f3⟩ := evP_f hC hev
    refine z_il iX1_changesOfRow_60 rfl ?_
    refine z_if_le iX1_changesOfRow_62 (fun h1 => ?_) (fun h1 => ?_)
    · have hkm : k = m := by omega
      subst hkm
      refine z_loc [some (zr (9, 0)), some (zi r), some (zi (nI (w ||| D))), some (zi d), some (zi (nI i)), some (zi (nI w))] ⟨rfl, rfl, rfl, rfl, rfl, rfl, trivial⟩ (KK D hev)
    · exfalso
      simp only [zi_le, Int32.reduceToInt] at h1
      omega
  | succ n ih =>
    intro k D ov hn hev hov
    obtain ⟨⟨jw, row, hjobs, hwa, hrow, hjw, hjr⟩, hN, hWl, hPl⟩ := hJ
    have hJ : jxR M N W P := ⟨⟨jw, row, hjobs, hwa, hrow, hjw, hjr⟩, hN, hWl, hPl⟩
    obtain ⟨f1, f2, f3⟩ := evP_f hC hev
    refine z_il iX1_changesOfRow_60 rfl ?_
    refine z_if_le iX1_changesOfRow_62 (fun h1 => ?_) (fun h1 => ?_)
    · exfalso
      simp only [zi_le, Int32.reduceToInt] at h1
      omega
    · refine z_il iX1_changesOfRow_65 rfl ?_
      refine z_al iX1_changesOfRow_66 rfl ?_
      refine z_il iX1_changesOfRow_67 rfl ?_
      refine z_il iX1_changesOfRow_68 rfl ?_
      refine z_co iX1_changesOfRow_70 ?_
      refine z_ixor iX1_changesOfRow_71 ?_
      refine z_iand iX1_changesOfRow_72 ?_
      have hD0 : ¬ D = 0 := fun q => by
        have e0 : zPop D = 0 := by rw [q]; decide
        omega
      rw [mk_D, mOr_D (fun f hf => hCw f (f2 f hf))]
      refine z_il iX1_changesOfRow_73 rfl ?_
      refine z_co iX1_changesOfRow_75 ?_
      refine z_iadd iX1_changesOfRow_76 ?_
      rw [show nI i + 1 = nI (i + 1) from (nI_succ i).symm]
      refine z_cv2i (fr' := fr - 1) iX1_changesOfRow_77 zmX1_outgoing hjobs (c1_outgoing (s := i + 1) f1 hD0 hJ (by omega) (by omega)) (by omega) (Nat.le_of_ble_eq_true rfl) (fun x M1 hq => ?_)
      obtain ⟨rfl, g, rfl, hg⟩ := hq
      have hgw : w.testBit g = false := hCw g (f2 g hg.1)
      refine z_co iX1_changesOfRow_80 ?_
      refine z_ixor iX1_changesOfRow_81 ?_
      refine z_iand iX1_changesOfRow_82 ?_
      rw [mk_D, mOr_P hgw]
      refine z_is iX1_changesOfRow_83 ?_
      refine z_in iX1_changesOfRow_84 rfl ?_
      refine z_goto iX1_changesOfRow_87 ?_
      have p10 := (zPop_f D f1).1
      have p11 := ov.toInt_lt
      refine z_loc [some (zr (9, 0)), some (zi r), some (zi (nI (w ||| mD D (2 ^ g)))), some (zi d), some (zi (nI i)), some (zi (nI w)), some (zi (ov + -1))] ⟨rfl, rfl, rfl, rfl, rfl, rfl, rfl, trivial⟩ (ih (k + 1) (mD D (2 ^ g)) (ov + -1) (by omega) ⟨D, g, hev, hg, rfl⟩ ?_)
      rw [zadd (by simp only [Int32.reduceToInt]; omega) (by simp only [Int32.reduceToInt]; omega)]
      simp only [Int32.reduceToInt]
      omega
