theorem fmP_pop {nx : Nat → Nat} {t0 w R d0 f t d : Nat} (ht : t0 < 1024) (h : fmP nx t0 w R d0 f t d) : (zPop t0 + zPop (mD w t0 % 2 ^ f) ≤ R → zPop t = zPop t0 + zPop (mD w t0 % 2 ^ f)) ∧ (R ≤ zPop t0 + zPop (mD w t0 % 2 ^ f) → zPop t = R) := by
  obtain ⟨E, hE, rfl, -⟩ := h
  obtain ⟨f1, f2, f3⟩ := evP_f (mD_lt ht) hE
  have e1 : zPop t0 = zPop (t0 &&& w) + zPop (mD t0 w) := zPop_or (fun j => by
    rw [Nat.testBit_and, mD_bit]
    cases t0.testBit j <;> cases w.testBit j <;> rfl) (fun j hj => by
    rw [Nat.testBit_and, Bool.and_eq_true] at hj
    rw [mD_bit, hj.2]; simp)
  have e2 : zPop ((t0 &&& w) ||| (mD w t0 % 2 ^ f)) = zPop (t0 &&& w) + zPop (mD w t0 % 2 ^ f) := zPop_or (fun j => Nat.testBit_or _ _ _) (fun j hj => by
    rw [Nat.testBit_and, Bool.and_eq_true] at hj
    rw [mMod_bit, mD_bit, hj.1]; simp)
  have e3 : zPop ((t0 &&& w) ||| (mD w t0 % 2 ^ f) ||| E) = zPop ((t0 &&& w) ||| (mD w t0 % 2 ^ f)) + zPop E := zPop_or (fun j => Nat.testBit_or _ _ _) (fun j hj => by
    cases z : E.testBit j with
    | false => rfl
    | true =>
      have z2 := mD_i.mp (f2 j z)
      rw [Nat.testBit_or, Nat.testBit_and, mMod_bit, mD_bit, z2.1, z2.2] at hj
      simp at hj)
  omega
