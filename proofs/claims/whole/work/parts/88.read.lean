theorem l6_div {x : Int64} {m : Nat} (h : x.toInt = (m : Int)) : (x / 6).toInt = ((m / 6 : Nat) : Int) := by
  rw [Int64.toInt_div, h]
  have hx := x.toInt_lt
  have e : (6 : Int64).toInt = 6 := by decide
  rw [e]
  have e2 : Int.tdiv (m : Int) 6 = ((m / 6 : Nat) : Int) := by
    rw [Int.tdiv_eq_ediv_of_nonneg (by omega)]; rfl
  rw [e2]
  exact Int.bmod_eq_of_le (by omega) (by omega)
theorem l6_rem {x : Int64} {m : Nat} (h : x.toInt = (m : Int)) : (x - x / 6 * 6).toInt32 = nI (m % 6) := by
  have e := l6_div h
  have hx := x.toInt_lt
  have e6 : (6 : Int64).toInt = 6 := by decide
  have e1 : (x / 6 * 6).toInt = ((m / 6 * 6 : Nat) : Int) := by
    rw [Int64.toInt_mul, e, e6]
    rw [show ((m / 6 : Nat) : Int) * 6 = ((m / 6 * 6 : Nat) : Int) by omega]
    exact Int.bmod_eq_of_le (by omega) (by omega)
  have e2 : (x - x / 6 * 6).toInt = ((m % 6 : Nat) : Int) := by
    rw [Int64.toInt_sub, h, e1]
    rw [show (m : Int) - ((m / 6 * 6 : Nat) : Int) = ((m % 6 : Nat) : Int) by omega]
    exact Int.bmod_eq_of_le (by omega) (by omega)
  rw [← Int32.toInt_inj, nI_toInt (by omega), Int64.toInt_toInt32, e2]
  exact Int.bmod_eq_of_le (by omega) (by omega)
/-- below 0 a digit is below 0, or 0 and what is left is below 0 -/
theorem l6_neg {x : Int64} (h : x.toInt < 0) : (x - x / 6 * 6).toInt32.toInt < 0 ∨ (x - x / 6 * 6).toInt32.toInt = 0 ∧ (x / 6).toInt < 0 := by
  have hx := x.le_toInt
  have e6 : (6 : Int64).toInt = 6 := by decide
  have f1 := Int.tmod_add_mul_tdiv x.toInt 6
  have f2 : Int.tmod x.toInt 6 ≤ 0 := by
    have := Int.tmod_nonneg (a := -x.toInt) 6 (by omega)
    rw [Int.neg_tmod] at this
    omega
  have f3 : -6 < Int.tmod x.toInt 6 := by
    have := Int.tmod_lt_of_pos (-x.toInt) (b := 6) (by omega)
    rw [Int.neg_tmod] at this
    omega
  have e : (x / 6).toInt = Int.tdiv x.toInt 6 := by
    rw [Int64.toInt_div, e6]
    exact Int.bmod_eq_of_le (by omega) (by omega)
  have e1 : (x / 6 * 6).toInt = Int.tdiv x.toInt 6 * 6 := by
    rw [Int64.toInt_mul, e, e6]
    exact Int.bmod_eq_of_le (by omega) (by omega)
  have e2 : (x - x / 6 * 6).toInt = Int.tmod x.toInt 6 := by
    rw [Int64.toInt_sub, e1]
    rw [show x.toInt - Int.tdiv x.toInt 6 * 6 = Int.tmod x.toInt 6 by omega]
    exact Int.bmod_eq_of_le (by omega) (by omega)
  rw [Int64.toInt_toInt32, e2, e, Int.bmod_eq_of_le (by omega) (by omega)]
  omega
/-- digit i of an order -/
def dgt (m i : Nat) : Nat := m / 6 ^ i % 6
/-- the digits seen, and whether none was seen twice -/
def rdS (m : Nat) : Nat → Nat
  | 0 => 0
  | i + 1 => rdS m i ||| 2 ^ dgt m i
def rdB (m : Nat) : Nat → Bool
  | 0 => true
  | i + 1 => rdB m i && !(rdS m i).testBit (dgt m i)
abbrev rdG (m N : Nat) : Prop := (∀ i, i < N → dgt m i < N) ∧ rdB m N = true ∧ m / 6 ^ N = 0
theorem dgt_6 (m i : Nat) : dgt m i < 6 := Nat.mod_lt _ (by decide)
theorem dgt_s (m i : Nat) : m / 6 ^ i / 6 = m / 6 ^ (i + 1) := by rw [Nat.div_div_eq_div_mul, Nat.pow_succ]
theorem rdS_lt {m : Nat} : ∀ i, rdS m i < 1024
  | 0 => by show 0 < 1024; decide
  | i + 1 => mOr_lt (rdS_lt i) (mPow_lt _ (by have := dgt_6 m i; omega))
theorem rdB_le {m : Nat} : ∀ {n i : Nat}, i ≤ n → rdB m n = true → rdB m i = true
  | 0, i, h, hb => by rw [show i = 0 by omega]; rfl
  | n + 1, i, h, hb => by
    by_cases z : i = n + 1
    · rw [z]; exact hb
    · exact rdB_le (show i ≤ n by omega) (Bool.and_eq_true_iff.mp (show (rdB m n && !(rdS m n).testBit (dgt m n)) = true from hb)).1
theorem rdB_s {m i : Nat} (h : rdB m (i + 1) = true) : ¬ (rdS m i).testBit (dgt m i) = true := fun z => by
  have a := (Bool.and_eq_true_iff.mp (show (rdB m i && !(rdS m i).testBit (dgt m i)) = true from h)).2
  rw [z] at a
  exact absurd a (by decide)
theorem rdB_t {m i : Nat} (h1 : rdB m i = true) (h2 : ¬ (rdS m i).testBit (dgt m i) = true) : rdB m (i + 1) = true := by
  show (rdB m i && !(rdS m i).testBit (dgt m i)) = true
  rw [h1, Bool.eq_false_iff.mpr h2]; rfl
theorem rdS_pop {m : Nat} : ∀ i, zPop (rdS m i) ≤ i ∧ (rdB m i = true ↔ zPop (rdS m i) = i)
  | 0 => ⟨by show zPop 0 ≤ 0; decide, fun _ => (by show zPop 0 = 0; decide), fun _ => rfl⟩
  | i + 1 => by
    obtain ⟨a1, a2⟩ := rdS_pop (m := m) i
    have hd : dgt m i < 10 := by have := dgt_6 m i; omega
    by_cases z : (rdS m i).testBit (dgt m i) = true
    · have e : rdS m (i + 1) = rdS m i := mEq (fun f => by
        show (rdS m i ||| 2 ^ dgt m i).testBit f = _
        rw [Nat.testBit_or, mPow_bit]
        by_cases q : dgt m i = f
        · subst q; rw [z]; rfl
        · rw [decide_eq_false q, Bool.or_false])
      rw [e]
      exact ⟨by omega, fun q => absurd z (rdB_s q), fun q => absurd q (by omega)⟩
    · have e : zPop (rdS m (i + 1)) = zPop (rdS m i) + zPop (2 ^ dgt m i) := zPop_or (fun f => Nat.testBit_or _ _ _) (fun f hf => by
        rw [mPow_bit]
        exact decide_eq_false (fun q => z (by rw [q]; exact hf)))
      rw [zPop_pow _ hd] at e
      rw [e]
      refine ⟨by omega, fun q => ?_, fun q => rdB_t (a2.mpr (by omega)) z⟩
      rw [a2.mp (rdB_le (show i ≤ i + 1 by omega) q)]
theorem rdS_bit {m j : Nat} : ∀ {i : Nat}, (rdS m i).testBit j = true → ∃ k, k < i ∧ dgt m k = j
  | 0, h => by
    rw [show rdS m 0 = 0 from rfl, Nat.zero_testBit] at h
    exact absurd h (by decide)
  | i + 1, h => by
    rw [show rdS m (i + 1) = rdS m i ||| 2 ^ dgt m i from rfl, Nat.testBit_or, mPow_bit, Bool.or_eq_true] at h
    rcases h with h | h
    · obtain ⟨k, h1, h2⟩ := rdS_bit h
      exact ⟨k, by omega, h2⟩
    · exact ⟨i, by omega, of_decide_eq_true h⟩
theorem rdS_full {m N : Nat} (hN : N ≤ 6) (hd : ∀ i, i < N → dgt m i < N) : rdS m N = 2 ^ N - 1 ↔ rdB m N = true := by
  have pN : ∀ N, N ≤ 6 → zPop (2 ^ N - 1) = N := by decide +kernel
  obtain ⟨a1, a2⟩ := rdS_pop (m := m) N
  constructor
  · intro h
    rw [a2, h, pN N hN]
  · intro h
    have hp := a2.mp h
    have hs : ∀ f, (rdS m N).testBit f = true → (2 ^ N - 1).testBit f = true := fun f hf => by
      obtain ⟨k, h1, h2⟩ := rdS_bit hf
      rw [Nat.testBit_two_pow_sub_one]
      have := hd k h1
      exact decide_eq_true (by omega)
    have hl : 2 ^ N - 1 < 1024 := Nat.lt_of_lt_of_le (show 2 ^ N - 1 < 2 ^ N by have := Nat.two_pow_pos N; omega) (Nat.le_trans (Nat.pow_le_pow_right (by decide) hN) (by decide))
    have e : zPop (2 ^ N - 1) = zPop (rdS m N) + zPop (mD (2 ^ N - 1) (rdS m N)) := zPop_or (fun f => by
      rw [mD_bit]
      have := hs f
      cases h1 : (rdS m N).testBit f
      · cases (2 ^ N - 1).testBit f <;> rfl
      · rw [this h1]; rfl) (fun f hf => by rw [mD_bit, hf]; simp)
    rw [pN N hN] at e
    have e0 := zPop_0 (mD_lt hl) (show zPop (mD (2 ^ N - 1) (rdS m N)) = 0 by omega)
    refine mEq (fun f => ?_)
    cases h1 : (rdS m N).testBit f
    · cases h2 : (2 ^ N - 1).testBit f
      · rfl
      · have := mD_z e0 h2
        rw [h1] at this
        exact absurd this (by decide)
    · exact (hs f h1).symm
theorem rdG_on {m N : Nat} (hN : N ≤ 6) (h : rdG m N) {j : Nat} (hj : j < N) : ∃ k, k < N ∧ dgt m k = j := by
  refine rdS_bit (m := m) ?_
  rw [(rdS_full hN h.1).mpr h.2.1, Nat.testBit_two_pow_sub_one]
  exact decide_eq_true hj
theorem lgc_ge {x : Int64} : 0 ≤ lg_cmp x 0 ↔ 0 ≤ x.toInt := by
  have e0 : (0 : Int64).toInt = 0 := by decide
  unfold lg_cmp
  by_cases h : x > 0
  · rw [if_pos h]
    have h2 := Int64.lt_iff_toInt_lt.mp h
    rw [e0] at h2
    exact ⟨fun _ => by omega, fun _ => by decide⟩
  · rw [if_neg h]
    have h2 : ¬ (0 : Int64).toInt < x.toInt := fun q => h (Int64.lt_iff_toInt_lt.mpr q)
    rw [e0] at h2
    by_cases h3 : x = 0
    · rw [if_pos h3, h3]
      exact ⟨fun _ => by decide, fun _ => by decide⟩
    · rw [if_neg h3]
      have h4 : ¬ x.toInt = (0 : Int64).toInt := fun q => h3 (Int64.toInt_inj.mp q)
      rw [e0] at h4
      exact ⟨fun q => absurd q (by decide), fun q => by omega⟩
theorem lgc_0 {x : Int64} : lg_cmp x 0 = 0 ↔ x.toInt = 0 := by
  constructor
  · intro h
    rw [lg_cmp_0 h]; decide
  · intro h
    have e : x = 0 := Int64.toInt_inj.mp (by rw [h]; decide)
    rw [e]; exact lg_cmp_self
set_option maxRecDepth 20000 in
set_option maxHeartbeats 4000000 in
theorem l1_readN {fr : Nat} {M : zM} {N : Nat} {o : Int64} (hjobs : M (9, 0) = some (.inr (1, [zi (nI N), zr (14, 0), zr (15, 0), zr (16, 0), zr (17, 0)]))) (hN : N ≤ 6) (ho : o.toInt < 0)  : ∀ (n i : Nat), i + n = N → ∀ (x : Int64) (s : Int32) (rr : Nat → Int32), x.toInt < 0 → zV zX1_readOrder fr 0 0 8 (zL [some (zr (9, 0)), some (zl o), none, some (zl x), none, some (zi s), some (zi (nI i))]) [] (zupd M (15, 0) (.inl (0, 6, .inl rr))) (fun r M' => ∃ y, r = some (zi y) ∧ ∃ r2, M' = zupd M (15, 0) (.inl (0, 6, .inl r2)) ∧ y = zbo (0 ≤ o.toInt ∧ rdG o.toInt.toNat N) ∧ ((0 ≤ o.toInt ∧ rdG o.toInt.toNat N) → ∀ k, k < N → r2 k = nI (dgt o.toInt.toNat k))) := by
  intro n
  induction n with
  | zero =>
    intro i  hn x s rr hx
    have eN := nI_toInt (n := N) (by omega)
    have ei := nI_toInt (n := i) (by omega)
    refine z_il iX1_readOrder_8 rfl ?_
    refine z_al iX1_readOrder_10 rfl ?_
    refine z_gf iX1_readOrder_11 ((zupd_k (Nat.ne_of_beq_eq_false rfl)).trans hjobs) rfl ?_
    refine z_icmp_ge iX1_readOrder_14 (fun h1 => ?_) (fun h1 => ?_)
    · refine z_ll iX1_readOrder_88 rfl ?_
      refine z_cl iX1_readOrder_89 ?_
      refine z_lcmp iX1_readOrder_90 ?_
      refine z_if_ne iX1_readOrder_91 (fun h2 => ?_) (fun h2 => ?_)
      · refine z_co iX1_readOrder_98 ?_
        refine z_zret iX1_readOrder_99 rfl rfl ?_
        refine ⟨_, rfl, _, rfl, (zbo_0 (fun q => ?_)).symm, fun q => ?_⟩
        · have := q.1; omega
        · have := q.1; omega
      · exfalso
        rw [lgc_0] at h2
        omega
    · exfalso
      simp only [zi_le, eN, ei] at h1
      omega
  | succ n ih =>
    intro i  hn x s rr hx
    have eN := nI_toInt (n := N) (by omega)
    have ei := nI_toInt (n := i) (by omega)
    refine z_il iX1_readOrder_8 rfl ?_
    refine z_al iX1_readOrder_10 rfl ?_
    refine z_gf iX1_readOrder_11 ((zupd_k (Nat.ne_of_beq_eq_false rfl)).trans hjobs) rfl ?_
    refine z_icmp_ge iX1_readOrder_14 (fun h1 => ?_) (fun h1 => ?_)
    · exfalso
      simp only [zi_le, eN, ei] at h1
      omega
    · refine z_il iX1_readOrder_17 rfl ?_
      refine z_co iX1_readOrder_19 ?_
      refine z_icmp_ge iX1_readOrder_21 (fun h2 => ?_) (fun h2 => ?_)
      · exfalso
        simp only [zi_le, Int32.reduceToInt, ei] at h2
        omega
      · refine z_ll iX1_readOrder_24 rfl ?_
        refine z_cl iX1_readOrder_25 ?_
        refine z_lrem iX1_readOrder_28 (by decide) ?_
        refine z_l2i iX1_readOrder_29 ?_
        refine z_is iX1_readOrder_30 ?_
        refine z_ll iX1_readOrder_32 rfl ?_
        refine z_cl iX1_readOrder_33 ?_
        refine z_ldiv iX1_readOrder_36 (by decide) ?_
        refine z_ls iX1_readOrder_37 ?_
        refine z_il iX1_readOrder_38 rfl ?_
        refine z_if_lt iX1_readOrder_40 (fun h3 => ?_) (fun h3 => ?_)
        · refine z_co iX1_readOrder_62 ?_
          refine z_zret iX1_readOrder_63 rfl rfl ?_
          refine ⟨_, rfl, _, rfl, (zbo_0 (fun q => ?_)).symm, fun q => ?_⟩
          · have := q.1; omega
          · have := q.1; omega
        · refine z_il iX1_readOrder_43 rfl ?_
          refine z_al iX1_readOrder_45 rfl ?_
          refine z_gf iX1_readOrder_46 ((zupd_k (Nat.ne_of_beq_eq_false rfl)).trans hjobs) rfl ?_
          refine z_icmp_ge iX1_readOrder_49 (fun h4 => ?_) (fun h4 => ?_)
          · refine z_co iX1_readOrder_62 ?_
            refine z_zret iX1_readOrder_63 rfl rfl ?_
            refine ⟨_, rfl, _, rfl, (zbo_0 (fun q => ?_)).symm, fun q => ?_⟩
            · have := q.1; omega
            · have := q.1; omega
          · refine z_il iX1_readOrder_52 rfl ?_
            refine z_il iX1_readOrder_54 rfl ?_
            refine z_ishr iX1_readOrder_56 ?_
            refine z_co iX1_readOrder_57 ?_
            refine z_iand iX1_readOrder_58 ?_
            refine z_if_eq iX1_readOrder_59 (fun h5 => ?_) (fun h5 => ?_)
            · refine z_il iX1_readOrder_64 rfl ?_
              refine z_co iX1_readOrder_66 ?_
              refine z_il iX1_readOrder_67 rfl ?_
              refine z_ishl iX1_readOrder_69 ?_
              refine z_ior iX1_readOrder_70 ?_
              refine z_is iX1_readOrder_71 ?_
              refine z_al iX1_readOrder_73 rfl ?_
              refine z_gf iX1_readOrder_74 ((zupd_k (Nat.ne_of_beq_eq_false rfl)).trans hjobs) rfl ?_
              refine z_il iX1_readOrder_77 rfl ?_
              refine z_il iX1_readOrder_79 rfl ?_
              refine z_iast2 iX1_readOrder_81 (show 2 ≤ 15 by decide) ei (show i < 6 by omega) ?_
              refine z_in iX1_readOrder_82 rfl ?_
              refine z_goto iX1_readOrder_85 ?_
              rcases l6_neg hx with q1 | q1
              · exfalso
                rw [zi_lt] at h3
                simp only [Int32.reduceToInt] at h3
                omega
              · refine z_loc [some (zr (9, 0)), some (zl o), none, some (zl (x / 6)), none, some (zi _), some (zi (nI (i + 1)))] ⟨rfl, rfl, rfl, rfl, ?_, trivial⟩ (ih (i + 1) (by omega) (x / 6) _ _ q1.2)
                show some (zi (nI i + 1)) = _
                rw [nI_1]
            · refine z_co iX1_readOrder_62 ?_
              refine z_zret iX1_readOrder_63 rfl rfl ?_
              refine ⟨_, rfl, _, rfl, (zbo_0 (fun q => ?_)).symm, fun q => ?_⟩
              · have := q.1; omega
              · have := q.1; omega
set_option maxRecDepth 20000 in
set_option maxHeartbeats 4000000 in
theorem l1_read {fr : Nat} {M : zM} {N : Nat} {o : Int64} (hjobs : M (9, 0) = some (.inr (1, [zi (nI N), zr (14, 0), zr (15, 0), zr (16, 0), zr (17, 0)]))) (hN : N ≤ 6) (ho : 0 ≤ o.toInt)  : ∀ (n i : Nat), i + n = N → ∀ (x : Int64) (rr : Nat → Int32), x.toInt = ((o.toInt.toNat / 6 ^ i : Nat) : Int) → rdB o.toInt.toNat i = true → (∀ k, k < i → dgt o.toInt.toNat k < N ∧ rr k = nI (dgt o.toInt.toNat k)) → zV zX1_readOrder fr 0 0 8 (zL [some (zr (9, 0)), some (zl o), none, some (zl x), none, some (zi (nI (rdS o.toInt.toNat i))), some (zi (nI i))]) [] (zupd M (15, 0) (.inl (0, 6, .inl rr))) (fun r M' => ∃ y, r = some (zi y) ∧ ∃ r2, M' = zupd M (15, 0) (.inl (0, 6, .inl r2)) ∧ y = zbo (0 ≤ o.toInt ∧ rdG o.toInt.toNat N) ∧ ((0 ≤ o.toInt ∧ rdG o.toInt.toNat N) → ∀ k, k < N → r2 k = nI (dgt o.toInt.toNat k))) := by
  intro n
  induction n with
  | zero =>
    intro i  hn x rr hx hb hall
    have eN := nI_toInt (n := N) (by omega)
    have ei := nI_toInt (n := i) (by omega)
    have hd6 := dgt_6 o.toInt.toNat i
    have ed := nI_toInt (n := dgt o.toInt.toNat i) (by omega)
    refine z_il iX1_readOrder_8 rfl ?_
    refine z_al iX1_readOrder_10 rfl ?_
    refine z_gf iX1_readOrder_11 ((zupd_k (Nat.ne_of_beq_eq_false rfl)).trans hjobs) rfl ?_
    refine z_icmp_ge iX1_readOrder_14 (fun h1 => ?_) (fun h1 => ?_)
    · refine z_ll iX1_readOrder_88 rfl ?_
      refine z_cl iX1_readOrder_89 ?_
      refine z_lcmp iX1_readOrder_90 ?_
      refine z_if_ne iX1_readOrder_91 (fun h2 => ?_) (fun h2 => ?_)
      · refine z_co iX1_readOrder_98 ?_
        refine z_zret iX1_readOrder_99 rfl rfl ?_
        have hiN : i = N := by omega
        subst hiN
        first
        | exact ⟨_, rfl, _, rfl, (zbo_1 ⟨ho, fun k hk => (hall k hk).1, hb, by rw [lgc_0] at h2; omega⟩).symm, fun _ k hk => (hall k hk).2⟩
        | exact ⟨_, rfl, _, rfl, (zbo_0 (fun q => by rw [lgc_0] at h2; have := q.2.2.2; omega)).symm, fun _ k hk => (hall k hk).2⟩
      · refine z_co iX1_readOrder_94 ?_
        refine z_goto iX1_readOrder_95 ?_
        refine z_zret iX1_readOrder_99 rfl rfl ?_
        have hiN : i = N := by omega
        subst hiN
        first
        | exact ⟨_, rfl, _, rfl, (zbo_1 ⟨ho, fun k hk => (hall k hk).1, hb, by rw [lgc_0] at h2; omega⟩).symm, fun _ k hk => (hall k hk).2⟩
        | exact ⟨_, rfl, _, rfl, (zbo_0 (fun q => by rw [lgc_0] at h2; have := q.2.2.2; omega)).symm, fun _ k hk => (hall k hk).2⟩
    · exfalso
      simp only [zi_le, eN, ei] at h1
      omega
  | succ n ih =>
    intro i  hn x rr hx hb hall
    have eN := nI_toInt (n := N) (by omega)
    have ei := nI_toInt (n := i) (by omega)
    have hd6 := dgt_6 o.toInt.toNat i
    have ed := nI_toInt (n := dgt o.toInt.toNat i) (by omega)
    refine z_il iX1_readOrder_8 rfl ?_
    refine z_al iX1_readOrder_10 rfl ?_
    refine z_gf iX1_readOrder_11 ((zupd_k (Nat.ne_of_beq_eq_false rfl)).trans hjobs) rfl ?_
    refine z_icmp_ge iX1_readOrder_14 (fun h1 => ?_) (fun h1 => ?_)
    · exfalso
      simp only [zi_le, eN, ei] at h1
      omega
    · refine z_il iX1_readOrder_17 rfl ?_
      refine z_co iX1_readOrder_19 ?_
      refine z_icmp_ge iX1_readOrder_21 (fun h2 => ?_) (fun h2 => ?_)
      · exfalso
        simp only [zi_le, Int32.reduceToInt, ei] at h2
        omega
      · refine z_ll iX1_readOrder_24 rfl ?_
        refine z_cl iX1_readOrder_25 ?_
        refine z_lrem iX1_readOrder_28 (by decide) ?_
        refine z_l2i iX1_readOrder_29 ?_
        rw [l6_rem hx, show o.toInt.toNat / 6 ^ i % 6 = dgt o.toInt.toNat i from rfl]
        refine z_is iX1_readOrder_30 ?_
        refine z_ll iX1_readOrder_32 rfl ?_
        refine z_cl iX1_readOrder_33 ?_
        refine z_ldiv iX1_readOrder_36 (by decide) ?_
        refine z_ls iX1_readOrder_37 ?_
        refine z_il iX1_readOrder_38 rfl ?_
        refine z_if_lt iX1_readOrder_40 (fun h3 => ?_) (fun h3 => ?_)
        · exfalso
          rw [zi_lt, ed] at h3
          simp only [Int32.reduceToInt] at h3
          omega
        · refine z_il iX1_readOrder_43 rfl ?_
          refine z_al iX1_readOrder_45 rfl ?_
          refine z_gf iX1_readOrder_46 ((zupd_k (Nat.ne_of_beq_eq_false rfl)).trans hjobs) rfl ?_
          refine z_icmp_ge iX1_readOrder_49 (fun h4 => ?_) (fun h4 => ?_)
          · refine z_co iX1_readOrder_62 ?_
            refine z_zret iX1_readOrder_63 rfl rfl ?_
            refine ⟨_, rfl, _, rfl, (zbo_0 (fun q => ?_)).symm, fun q => absurd q (fun q => ?_)⟩
            · have g := q.2.1 i (by omega)
              first
              | (exfalso; simp only [zi_le, ed, eN] at h4; omega)
              | exact h5 ((mk_set (rdS_lt i) (by omega)).mpr (rdB_s (rdB_le (show i + 1 ≤ N by omega) q.2.2.1)))
            · have g := q.2.1 i (by omega)
              first
              | (exfalso; simp only [zi_le, ed, eN] at h4; omega)
              | exact h5 ((mk_set (rdS_lt i) (by omega)).mpr (rdB_s (rdB_le (show i + 1 ≤ N by omega) q.2.2.1)))
          · have hlt : dgt o.toInt.toNat i < N := by
              simp only [zi_le, ed, eN] at h4
              omega
            refine z_il iX1_readOrder_52 rfl ?_
            refine z_il iX1_readOrder_54 rfl ?_
            refine z_ishr iX1_readOrder_56 ?_
            refine z_co iX1_readOrder_57 ?_
            refine z_iand iX1_readOrder_58 ?_
            refine z_if_eq iX1_readOrder_59 (fun h5 => ?_) (fun h5 => ?_)
            · refine z_il iX1_readOrder_64 rfl ?_
              refine z_co iX1_readOrder_66 ?_
              refine z_il iX1_readOrder_67 rfl ?_
              refine z_ishl iX1_readOrder_69 ?_
              refine z_ior iX1_readOrder_70 ?_
              refine z_is iX1_readOrder_71 ?_
              refine z_al iX1_readOrder_73 rfl ?_
              refine z_gf iX1_readOrder_74 ((zupd_k (Nat.ne_of_beq_eq_false rfl)).trans hjobs) rfl ?_
              refine z_il iX1_readOrder_77 rfl ?_
              refine z_il iX1_readOrder_79 rfl ?_
              refine z_iast2 iX1_readOrder_81 (show 2 ≤ 15 by decide) ei (show i < 6 by omega) ?_
              refine z_in iX1_readOrder_82 rfl ?_
              refine z_goto iX1_readOrder_85 ?_
              refine z_loc [some (zr (9, 0)), some (zl o), none, some (zl (x / 6)), none, some (zi (nI (rdS o.toInt.toNat (i + 1)))), some (zi (nI (i + 1)))] ⟨rfl, rfl, rfl, ?_, ?_, trivial⟩ (ih (i + 1) (by omega) (x / 6) _ ?_ ?_ ?_)
              · show some (zi (nI (rdS o.toInt.toNat i) ||| (1 : Int32) <<< (nI (dgt o.toInt.toNat i) &&& 31))) = _
                rw [mk_bit _ (by omega), mk_or]; rfl
              · show some (zi (nI i + 1)) = _
                rw [nI_1]
              · rw [l6_div hx, dgt_s]
              · exact rdB_t hb ((mk_set (rdS_lt i) (by omega)).mp h5)
              · intro k hk
                by_cases z : k = i
                · subst z
                  exact ⟨hlt, zup_s⟩
                · have a := hall k (by omega)
                  exact ⟨a.1, (zup_n z).trans a.2⟩
            · refine z_co iX1_readOrder_62 ?_
              refine z_zret iX1_readOrder_63 rfl rfl ?_
              refine ⟨_, rfl, _, rfl, (zbo_0 (fun q => ?_)).symm, fun q => absurd q (fun q => ?_)⟩
              · have g := q.2.1 i (by omega)
                first
                | (exfalso; simp only [zi_le, ed, eN] at h4; omega)
                | exact h5 ((mk_set (rdS_lt i) (by omega)).mpr (rdB_s (rdB_le (show i + 1 ≤ N by omega) q.2.2.1)))
              · have g := q.2.1 i (by omega)
                first
                | (exfalso; simp only [zi_le, ed, eN] at h4; omega)
                | exact h5 ((mk_set (rdS_lt i) (by omega)).mpr (rdB_s (rdB_le (show i + 1 ≤ N by omega) q.2.2.1)))
set_option maxRecDepth 20000 in
set_option maxHeartbeats 4000000 in
theorem c1_readOrder {fr : Nat} {M : zM} {N : Nat} {o : Int64} (hjobs : M (9, 0) = some (.inr (1, [zi (nI N), zr (14, 0), zr (15, 0), zr (16, 0), zr (17, 0)]))) (hN : N ≤ 6) {row : Nat → Int32} (hrow : M (15, 0) = some (.inl (0, 6, .inl row))) : zCi zX1_readOrder fr 0 0 [zr (9, 0), zl o] M (fun y M' => ∃ r2, M' = zupd M (15, 0) (.inl (0, 6, .inl r2)) ∧ y = zbo (0 ≤ o.toInt ∧ rdG o.toInt.toNat N) ∧ ((0 ≤ o.toInt ∧ rdG o.toInt.toNat N) → ∀ k, k < N → r2 k = nI (dgt o.toInt.toNat k))) := by
  refine z_enter (L := [some (zr (9, 0)), some (zl o), none]) rfl (by decide +kernel) (Nat.le_of_ble_eq_true rfl) ?_
  refine z_ll iX1_readOrder_0 rfl ?_
  refine z_ls iX1_readOrder_1 ?_
  refine z_co iX1_readOrder_2 ?_
  refine z_is iX1_readOrder_3 ?_
  refine z_co iX1_readOrder_5 ?_
  refine z_is iX1_readOrder_6 ?_
  refine z_loc [some (zr (9, 0)), some (zl o), none, some (zl o), none, some (zi (nI 0)), some (zi (nI 0))] ⟨rfl, rfl, rfl, rfl, rfl, trivial⟩ ?_
  by_cases ho : 0 ≤ o.toInt
  · have h9 := l1_read (fr := fr) hjobs hN ho N 0 (by omega) o row (by rw [Nat.pow_zero, Nat.div_one]; omega) rfl (fun k hk => absurd hk (Nat.not_lt_zero k))
    rw [zupd_same hrow] at h9
    exact h9
  · have h9 := l1_readN (fr := fr) (o := o) hjobs hN (by omega) N 0 (by omega) o (nI 0) row (by omega)
    rw [zupd_same hrow] at h9
    exact h9
