/-- TEXT 0 as the class writes it, and as the model does -/
def u72 : Nat → Int32 := fun j => (zByt.getD 0 []).getD j 0
def u64l : List Int32 := [119, 111, 114, 110, 32, 108, 105, 102, 101, 60, 99, 117, 116, 115, 59, 98, 114, 111, 107, 101, 110, 32, 53, 48, 48, 60, 99, 117, 116, 115, 42, 115, 112, 101, 101, 100, 59, 99, 104, 101, 99, 107, 32, 114, 101, 97, 100, 105, 110, 103, 61, 110, 111, 109, 105, 110, 97, 108, 59, 32, 32, 32, 32, 32]
def u64 : Nat → Int32 := fun j => u64l.getD j 0
def pqI (a b : Int32) : Bool := if a = b then true else false
def pqL : List Int32 → List Int32 → Bool
  | [], [] => true
  | a :: l, b :: m => pqI a b && pqL l m
  | _, _ => false
def pqE2 (a b : pqS) : Bool := Nat.beq a.1 b.1 && (a.2.1 == b.2.1) && pqL a.2.2 b.2.2
theorem pqL_e : ∀ {l m : List Int32}, pqL l m = true → l = m
  | [], [], _ => rfl
  | [], _ :: _, h => by cases h
  | _ :: _, [], h => by cases h
  | a :: l, b :: m, h => by
    obtain ⟨h1, h2⟩ := Bool.and_eq_true_iff.mp (show (pqI a b && pqL l m) = true from h)
    have e : a = b := by
      unfold pqI at h1
      by_cases q : a = b
      · exact q
      · rw [if_neg q] at h1; cases h1
    rw [e, pqL_e h2]
theorem pqE_e {a b : pqS} (h : pqE2 a b = true) : a = b := by
  obtain ⟨h1, h2⟩ := Bool.and_eq_true_iff.mp h
  obtain ⟨h3, h4⟩ := Bool.and_eq_true_iff.mp h1
  obtain ⟨a1, a2, a3⟩ := a
  obtain ⟨b1, b2, b3⟩ := b
  have e1 : a1 = b1 := Nat.eq_of_beq_eq_true h3
  have e2 : a2 = b2 := beq_iff_eq.mp h4
  have e3 : a3 = b3 := pqL_e h2
  rw [e1, e2, e3]
theorem tx0_1 : pqE2 (pqTx1 (tkT u72 72)) (pqTx1 (tkT (zCut u64) 64)) = true := by decide +kernel
theorem tx0_2 : pqE2 (pqTx2 (tkT u72 72)) (pqTx2 (tkT (zCut u64) 64)) = true := by decide +kernel
theorem tx0_3 : pqE2 (pqTx3 (tkT u72 72)) (pqTx3 (tkT (zCut u64) 64)) = true := by decide +kernel
theorem tx0_4 : pqE2 (pqTxt (tkT u72 72)) (pqTxt (tkT (zCut u64) 64)) = true := by decide +kernel
theorem tx0_good : (pqTxt (tkT u72 72)).2.1 = false := by decide +kernel
theorem u72_b : ∀ j, j < 72 → (0 ≤ (u72 j).toInt ∧ (u72 j).toInt ≤ 255) ∧ (u72 j).toInt8.toInt32.toInt8.toInt32 = (u72 j).toInt8.toInt32 := by decide +kernel
theorem u64_b : ∀ j, j < 64 → 0 ≤ (u64 j).toInt ∧ (u64 j).toInt ≤ 255 := by decide +kernel
