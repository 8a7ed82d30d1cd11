theorem mMod_bit {D f j : Nat} : (D % 2 ^ f).testBit j = (decide (j < f) && D.testBit j) := Nat.testBit_mod_two_pow D f j
theorem mMod_no {D f : Nat} (h : ¬ D.testBit f = true) : D % 2 ^ (f + 1) = D % 2 ^ f := mEq (fun j => by
  rw [mMod_bit, mMod_bit]
  by_cases z : j = f
  · rw [z, Bool.eq_false_iff.mpr h]; simp
  · have e : decide (j < f + 1) = decide (j < f) := decide_eq_decide.mpr (by omega)
    rw [e])
theorem mMod_s {D f : Nat} (h : D.testBit f = true) : D % 2 ^ (f + 1) = D % 2 ^ f ||| 2 ^ f := mEq (fun j => by
  rw [Nat.testBit_or, mMod_bit, mMod_bit, mPow_bit]
  by_cases z : j = f
  · subst z; rw [h]; simp
  · have e : decide (j < f + 1) = decide (j < f) := decide_eq_decide.mpr (by omega)
    rw [e, decide_eq_false (show ¬ f = j from fun q => z q.symm), Bool.or_false])
theorem zPop_mod_s {D f : Nat} (h : D.testBit f = true) (hf : f < 10) : zPop (D % 2 ^ (f + 1)) = zPop (D % 2 ^ f) + 1 := by
  have e : zPop (D % 2 ^ (f + 1)) = zPop (D % 2 ^ f) + zPop (2 ^ f) := by
    refine zPop_or (fun j => by rw [mMod_s h, Nat.testBit_or]) (fun j hj => ?_)
    rw [mMod_bit, Bool.and_eq_true] at hj
    rw [mPow_bit]
    have := of_decide_eq_true hj.1
    exact decide_eq_false (by omega)
  rw [e, zPop_pow f hf]
/-- what is there and what was done behind the families below f -/
def fmP (nx : Nat → Nat) (t0 w R d0 f t d : Nat) : Prop := ∃ E, evP nx (mD t0 w) (zPop t0 + zPop (mD w t0 % 2 ^ f) - R) E ∧ t = ((t0 &&& w) ||| (mD w t0 % 2 ^ f)) ||| E ∧ d = d0 + zPop (mD w t0 % 2 ^ f)
theorem fmP_0 {nx : Nat → Nat} {t0 w R d0 : Nat} (h : zPop t0 ≤ R) : fmP nx t0 w R d0 0 t0 d0 := by
  have e0 : mD w t0 % 2 ^ 0 = 0 := Nat.mod_one _
  have p0 : zPop 0 = 0 := by decide
  unfold fmP
  rw [e0, p0, show zPop t0 + 0 - R = 0 by omega]
  refine ⟨mD t0 w, rfl, mEq (fun j => ?_), rfl⟩
  rw [Nat.testBit_or, Nat.testBit_or, Nat.testBit_and, Nat.zero_testBit, mD_bit]
  cases t0.testBit j <;> cases w.testBit j <;> rfl
theorem fmP_no {nx : Nat → Nat} {t0 w R d0 f t d : Nat} (h : fmP nx t0 w R d0 f t d) (hf : ¬ (mD w t0).testBit f = true) : fmP nx t0 w R d0 (f + 1) t d := by
  unfold fmP
  rw [mMod_no hf]
  exact h
