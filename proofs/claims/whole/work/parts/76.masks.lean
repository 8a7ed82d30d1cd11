/-! SETS OF FAMILIES: numbers below 1024 -/
theorem mk_and (a b : Nat) : nI a &&& nI b = nI (a &&& b) := by
  apply Int32.toBitVec_inj.mp
  show BitVec.ofNat 32 a &&& BitVec.ofNat 32 b = BitVec.ofNat 32 (a &&& b)
  apply BitVec.eq_of_toNat_eq
  simp only [BitVec.toNat_and, BitVec.toNat_ofNat, Nat.and_mod_two_pow]
theorem mk_or (a b : Nat) : nI a ||| nI b = nI (a ||| b) := by
  apply Int32.toBitVec_inj.mp
  show BitVec.ofNat 32 a ||| BitVec.ofNat 32 b = BitVec.ofNat 32 (a ||| b)
  apply BitVec.eq_of_toNat_eq
  simp only [BitVec.toNat_or, BitVec.toNat_ofNat, Nat.or_mod_two_pow]
theorem mk_xor (a b : Nat) : nI a ^^^ nI b = nI (a ^^^ b) := by
  apply Int32.toBitVec_inj.mp
  show BitVec.ofNat 32 a ^^^ BitVec.ofNat 32 b = BitVec.ofNat 32 (a ^^^ b)
  apply BitVec.eq_of_toNat_eq
  simp only [BitVec.toNat_xor, BitVec.toNat_ofNat, Nat.xor_mod_two_pow]
/-- a without b -/
def mD (a b : Nat) : Nat := a ^^^ (a &&& b)
theorem mk_D (a b : Nat) : nI a &&& (nI b ^^^ -1) = nI (mD a b) := by
  unfold mD
  rw [← mk_xor, ← mk_and]
  apply Int32.toBitVec_inj.mp
  generalize nI a = x
  generalize nI b = y
  show x.toBitVec &&& (y.toBitVec ^^^ BitVec.allOnes 32) = x.toBitVec ^^^ (x.toBitVec &&& y.toBitVec)
  apply BitVec.eq_of_getLsbD_eq
  intro i hi
  simp only [BitVec.getLsbD_and, BitVec.getLsbD_xor, BitVec.getLsbD_allOnes, hi, decide_true]
  cases x.toBitVec.getLsbD i <;> cases y.toBitVec.getLsbD i <;> rfl
theorem mD_bit {a b f : Nat} : (mD a b).testBit f = (a.testBit f && !b.testBit f) := by
  unfold mD
  rw [Nat.testBit_xor, Nat.testBit_and]
  cases a.testBit f <;> cases b.testBit f <;> rfl
theorem mOr_lt {a b : Nat} (ha : a < 1024) (hb : b < 1024) : a ||| b < 1024 := Nat.or_lt_two_pow (n := 10) ha hb
theorem mXor_lt {a b : Nat} (ha : a < 1024) (hb : b < 1024) : a ^^^ b < 1024 := Nat.xor_lt_two_pow (n := 10) ha hb
theorem mAnd_lt {a b : Nat} (ha : a < 1024) : a &&& b < 1024 := Nat.lt_of_le_of_lt Nat.and_le_left ha
theorem mD_lt {a b : Nat} (ha : a < 1024) : mD a b < 1024 := mXor_lt ha (mAnd_lt ha)
theorem mBit_lt {a f : Nat} (ha : a < 1024) (h : a.testBit f = true) : f < 10 := by
  have h1 := Nat.ge_two_pow_of_testBit h
  by_cases z : f < 10
  · exact z
  · have h2 : 2 ^ 10 ≤ 2 ^ f := Nat.pow_le_pow_right (by decide) (by omega)
    exact absurd (Nat.le_trans h2 h1) (by omega)
theorem mEq {a b : Nat} (h : ∀ f, a.testBit f = b.testBit f) : a = b := Nat.eq_of_testBit_eq h
theorem mk_bit : ∀ f, f < 10 → (1 : Int32) <<< (nI f &&& 31) = nI (2 ^ f) := by decide +kernel
theorem mk_test : ∀ a, a < 1024 → ∀ f, f < 10 → (nI a >>> (nI f &&& 31)) &&& 1 = if a.testBit f = true then 1 else 0 := by decide +kernel
theorem mPow_lt : ∀ f, f < 10 → 2 ^ f < 1024 := by decide
theorem len_or {p q r : Nat → Bool} (h1 : ∀ f, r f = (p f || q f)) (h2 : ∀ f, p f = true → q f = false) : ∀ l : List Nat, (l.filter r).length = (l.filter p).length + (l.filter q).length
  | [] => rfl
  | f :: l => by
    have ih := len_or h1 h2 l
    have z1 := h1 f
    have z2 := h2 f
    rw [List.filter_cons, List.filter_cons, List.filter_cons]
    cases hp : p f
    · cases hq : q f
      · rw [hp, hq] at z1; rw [z1]; exact ih
      · rw [hp, hq] at z1; rw [z1]
        show (List.filter r l).length + 1 = (List.filter p l).length + ((List.filter q l).length + 1)
        omega
    · rw [z2 hp]; rw [hp] at z1; rw [z1, Bool.true_or]
      show (List.filter r l).length + 1 = ((List.filter p l).length + 1) + (List.filter q l).length
      omega
/-- numbers of two sets with nothing in common -/
theorem zPop_or {a b c : Nat} (h1 : ∀ f, c.testBit f = (a.testBit f || b.testBit f)) (h2 : ∀ f, a.testBit f = true → b.testBit f = false) : zPop c = zPop a + zPop b := len_or h1 h2 _
theorem zPop_le : ∀ {l : List Nat} {p q : Nat → Bool}, (∀ f, p f = true → q f = true) → (l.filter p).length ≤ (l.filter q).length
  | [], _, _, _ => Nat.le_refl _
  | f :: l, p, q, h => by
    have ih := zPop_le (l := l) h
    have z := h f
    rw [List.filter_cons, List.filter_cons]
    cases hp : p f
    · cases hq : q f
      · exact ih
      · exact Nat.le_succ_of_le ih
    · rw [z hp]
      exact Nat.succ_le_succ ih
theorem zPop_sub {a b : Nat} (h : ∀ f, a.testBit f = true → b.testBit f = true) : zPop a ≤ zPop b := zPop_le h
theorem zPop_pow : ∀ f, f < 10 → zPop (2 ^ f) = 1 := by decide +kernel
theorem zPop_0 {a : Nat} (ha : a < 1024) (h : zPop a = 0) : a = 0 := (zPop_f a ha).2.1 h
/-- the top of a set of families, by the place where they are wanted next, then by number -/
def tpP (C : Nat) (nx : Nat → Nat) (g : Nat) : Prop := C.testBit g = true ∧ ∀ f, C.testBit f = true → nx f < nx g ∨ nx f = nx g ∧ f ≤ g
theorem tpP_1 {C : Nat} {nx : Nat → Nat} {g k : Nat} (h1 : tpP C nx g) (h2 : tpP C nx k) : g = k := by
  have a := h1.2 k h2.1
  have b := h2.2 g h1.1
  omega
theorem tpP_c {C C' : Nat} {nx : Nat → Nat} {g : Nat} (h : ∀ f, C.testBit f = C'.testBit f) (h1 : tpP C nx g) : tpP C' nx g := ⟨(h g).symm.trans h1.1, fun f hf => h1.2 f ((h f).trans hf)⟩
/-- the goings: the tops go one after the other -/
def evP (nx : Nat → Nat) (C : Nat) : Nat → Nat → Prop
  | 0, E => E = C
  | k + 1, E => ∃ D g, evP nx C k D ∧ tpP D nx g ∧ E = mD D (2 ^ g)
theorem evP_1 {nx : Nat → Nat} {C : Nat} : ∀ {k D E : Nat}, evP nx C k D → evP nx C k E → D = E
  | 0, _, _, h1, h2 => h1.trans h2.symm
  | k + 1, _, _, ⟨_, _, h1, g1, e1⟩, ⟨_, _, h2, g2, e2⟩ => by
    have e := evP_1 h1 h2
    subst e
    rw [e1, e2, tpP_1 g1 g2]
theorem mPow_bit {g f : Nat} : (2 ^ g).testBit f = decide (g = f) := Nat.testBit_two_pow
theorem evP_f {nx : Nat → Nat} {C : Nat} (hC : C < 1024) : ∀ {k D : Nat}, evP nx C k D → D < 1024 ∧ (∀ f, D.testBit f = true → C.testBit f = true) ∧ zPop D + k = zPop C
  | 0, E, h => by
    have h : E = C := h
    subst h
    exact ⟨hC, fun _ h => h, rfl⟩
  | k + 1, E, ⟨D, g, h1, g1, e1⟩ => by
    subst e1
    obtain ⟨a1, a2, a3⟩ := evP_f hC h1
    refine ⟨mD_lt a1, fun f hf => ?_, ?_⟩
    · rw [mD_bit] at hf
      rw [Bool.and_eq_true] at hf
      exact a2 f hf.1
    · have e : zPop D = zPop (mD D (2 ^ g)) + zPop (2 ^ g) := zPop_or (fun f => by
        rw [mD_bit, mPow_bit]
        by_cases z : g = f
        · subst z; rw [g1.1]; simp
        · simp [z]) (fun f hf => by
        rw [mD_bit] at hf
        cases h : (2 ^ g).testBit f
        · rfl
        · rw [h] at hf; simp at hf)
      rw [zPop_pow g (mBit_lt a1 g1.1)] at e
      omega
