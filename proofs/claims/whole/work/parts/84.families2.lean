theorem fmP_bit {nx : Nat → Nat} {t0 w R d0 f t d : Nat} (ht : t0 < 1024) (h : fmP nx t0 w R d0 f t d) (hf : w.testBit f = true) : t.testBit f = t0.testBit f := by
  obtain ⟨E, hE, rfl, -⟩ := h
  have e1 : E.testBit f = false := by
    cases z : E.testBit f with
    | false => rfl
    | true =>
      have z2 := mDw ((evP_f (mD_lt ht) hE).2.1 f z)
      rw [hf] at z2
      exact absurd z2 (by decide)
  rw [Nat.testBit_or, Nat.testBit_or, Nat.testBit_and, mMod_bit, hf, e1, decide_eq_false (Nat.lt_irrefl f)]
  simp
theorem fmP_10 {nx : Nat → Nat} {t0 w R d0 t d : Nat} (ht : t0 < 1024) (hw : w < 1024) (h : fmP nx t0 w R d0 10 t d) : ∃ E, evP nx (mD t0 w) (zPop (t0 ||| w) - R) E ∧ t = w ||| E ∧ d = d0 + zPop (mD w t0) := by
  obtain ⟨E, hE, e1, e2⟩ := h
  have em : mD w t0 % 2 ^ 10 = mD w t0 := Nat.mod_eq_of_lt (mD_lt hw)
  rw [em] at hE e1 e2
  have ep : zPop (t0 ||| w) = zPop t0 + zPop (mD w t0) := zPop_or (fun f => by
    rw [Nat.testBit_or, mD_bit]
    cases t0.testBit f <;> cases w.testBit f <;> rfl) (fun f hf => by rw [mD_bit, hf]; simp)
  rw [ep]
  refine ⟨E, hE, ?_, e2⟩
  rw [e1]
  congr 1
  refine mEq (fun f => ?_)
  rw [Nat.testBit_or, Nat.testBit_and, mD_bit]
  cases t0.testBit f <;> cases w.testBit f <;> rfl
