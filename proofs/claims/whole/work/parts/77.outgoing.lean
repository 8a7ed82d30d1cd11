/-- the first place from j on, of k, whose job wants f; where there is none: the place behind -/
def nxF (V : Nat → Nat) (f : Nat) : Nat → Nat → Nat
  | 0, j => j
  | k + 1, j => if (V j).testBit f = true then j else nxF V f k (j + 1)
theorem nxF_f {V : Nat → Nat} {f : Nat} : ∀ (k j : Nat), j ≤ nxF V f k j ∧ nxF V f k j ≤ j + k ∧ (∀ i, j ≤ i → i < nxF V f k j → (V i).testBit f = false) ∧ (nxF V f k j < j + k → (V (nxF V f k j)).testBit f = true)
  | 0, j => ⟨Nat.le_refl _, Nat.le_refl _, fun i h1 h2 => absurd (show i < j from h2) (by omega), fun h => absurd (show j < j + 0 from h) (by omega)⟩
  | k + 1, j => by
    by_cases z : (V j).testBit f = true
    · have e : nxF V f (k + 1) j = j := if_pos z
      rw [e]
      exact ⟨Nat.le_refl _, by omega, fun i h1 h2 => absurd h2 (by omega), fun _ => z⟩
    · have e : nxF V f (k + 1) j = nxF V f k (j + 1) := if_neg z
      obtain ⟨a1, a2, a3, a4⟩ := nxF_f (V := V) (f := f) k (j + 1)
      rw [e]
      refine ⟨by omega, by omega, fun i h1 h2 => ?_, fun h => a4 (by omega)⟩
      by_cases z2 : i = j
      · rw [z2]; exact Bool.eq_false_iff.mpr z
      · exact a3 i (by omega) h2
/-- how the class holds the jobs: count, what they want, the row -/
def jxR (M : zM) (N : Nat) (W P : Nat → Nat) : Prop := (∃ w row, M (9, 0) = some (.inr (1, [zi (nI N), zr (14, 0), zr (15, 0), zr (16, 0), zr (17, 0)])) ∧ M (14, 0) = some (.inl (0, 6, .inl w)) ∧ M (15, 0) = some (.inl (0, 6, .inl row)) ∧ (∀ j, j < N → w j = nI (W j)) ∧ ∀ i, i < N → row i = nI (P i)) ∧ N ≤ 6 ∧ (∀ j, j < N → W j < 1024) ∧ ∀ i, i < N → P i < N
set_option maxRecDepth 20000 in
set_option maxHeartbeats 4000000 in
theorem c1_wantsAt {fr : Nat} {M : zM} {N : Nat} {W P : Nat → Nat} (hJ : jxR M N W P) {i : Nat} (hi : i < N) : zCi zX1_wantsAt fr 0 0 [zr (9, 0), zi (nI i)] M (fun x M' => M' = M ∧ x = nI (W (P i))) := by
  refine z_enter (L := [some (zr (9, 0)), some (zi (nI i))]) rfl (by decide +kernel) (Nat.le_of_ble_eq_true rfl) ?_
  obtain ⟨⟨w, row, hjobs, hwa, hrow, hw, hr⟩, hN, hWl, hPl⟩ := hJ
  have ei := nI_toInt (n := i) (by omega)
  have hp := hPl i hi
  have ep := nI_toInt (n := P i) (by omega)
  refine z_il iX1_wantsAt_0 rfl ?_
  refine z_if_lt iX1_wantsAt_1 (fun h1 => ?_) (fun h1 => ?_)
  · exfalso
    simp only [zi_le, zi_lt, Int32.reduceToInt, ei, ep] at h1
    omega
  · refine z_il iX1_wantsAt_4 rfl ?_
    refine z_co iX1_wantsAt_5 ?_
    refine z_icmp_lt iX1_wantsAt_7 (fun h2 => ?_) (fun h2 => ?_)
    · refine z_al iX1_wantsAt_12 rfl ?_
      refine z_gf iX1_wantsAt_13 hjobs rfl ?_
      refine z_il iX1_wantsAt_16 rfl ?_
      refine z_iald iX1_wantsAt_17 hrow ei (show i < 6 by omega) ?_
      rw [hr i hi]
      refine z_is iX1_wantsAt_18 ?_
      refine z_il iX1_wantsAt_19 rfl ?_
      refine z_if_lt iX1_wantsAt_20 (fun h3 => ?_) (fun h3 => ?_)
      · exfalso
        simp only [zi_le, zi_lt, Int32.reduceToInt, ei, ep] at h3
        omega
      · refine z_il iX1_wantsAt_23 rfl ?_
        refine z_co iX1_wantsAt_24 ?_
        refine z_icmp_ge iX1_wantsAt_26 (fun h4 => ?_) (fun h4 => ?_)
        · exfalso
          simp only [zi_le, zi_lt, Int32.reduceToInt, ei, ep] at h4
          omega
        · refine z_al iX1_wantsAt_29 rfl ?_
          refine z_gf iX1_wantsAt_30 hjobs rfl ?_
          refine z_il iX1_wantsAt_33 rfl ?_
          refine z_iald iX1_wantsAt_34 hwa ep (show P i < 6 by omega) ?_
          refine z_goto iX1_wantsAt_35 ?_
          refine z_iret iX1_wantsAt_39 rfl ?_
          exact ⟨_, rfl, rfl, hw _ hp⟩
    · exfalso
      simp only [zi_le, zi_lt, Int32.reduceToInt, ei, ep] at h2
      omega
set_option maxRecDepth 20000 in
set_option maxHeartbeats 4000000 in
theorem l1_greatest {fr : Nat} {M : zM} {a : Nat} (ha : a < 1024) (h0 : ¬ a = 0)  : ∀ (n i : Nat), i + n = 9 → (∀ f, n < f → a.testBit f = false) → zV zX1_greatestOf fr 0 0 3 (zL [some (zi (nI a)), some (zi (nI n))]) [] M (fun r M' => ∃ y, r = some (zi y) ∧ M' = M ∧ ∃ g, y = nI (2 ^ g) ∧ a.testBit g = true ∧ ∀ f, a.testBit f = true → f ≤ g) := by
  intro n
  induction n with
  | zero =>
    intro i  hn hz
    refine z_il iX1_greatestOf_3 rfl ?_
    refine z_if_le iX1_greatestOf_4 (fun h1 => ?_) (fun h1 => ?_)
    · refine z_co iX1_greatestOf_25 ?_
      refine z_iret iX1_greatestOf_26 rfl ?_
      refine ⟨_, rfl, rfl, 0, rfl, ?_, fun f hf => ?_⟩
      · cases z : a.testBit 0 with
        | true => rfl
        | false =>
          refine absurd (mEq (fun f => ?_)) h0
          rw [Nat.zero_testBit]
          by_cases z2 : f = 0
          · rw [z2]; exact z
          · exact hz f (by omega)
      · by_cases z2 : f = 0
        · omega
        · rw [hz f (by omega)] at hf
          exact absurd hf (by decide)
    · exact absurd (by decide) h1
  | succ n ih =>
    intro i  hn hz
    refine z_il iX1_greatestOf_3 rfl ?_
    refine z_if_le iX1_greatestOf_4 (fun h1 => ?_) (fun h1 => ?_)
    · exfalso
      have e1 := nI_toInt (n := n + 1) (by omega)
      simp only [zi_le, Int32.reduceToInt, e1] at h1
      omega
    · refine z_il iX1_greatestOf_7 rfl ?_
      refine z_il iX1_greatestOf_8 rfl ?_
      refine z_ishr iX1_greatestOf_9 ?_
      refine z_co iX1_greatestOf_10 ?_
      refine z_iand iX1_greatestOf_11 ?_
      refine z_if_eq iX1_greatestOf_12 (fun h2 => ?_) (fun h2 => ?_)
      · refine z_in iX1_greatestOf_19 rfl ?_
        refine z_goto iX1_greatestOf_22 ?_
        refine z_loc [some (zi (nI a)), some (zi (nI n))] ⟨rfl, ?_, trivial⟩ (ih (i + 1) (by omega) (fun f hf => ?_))
        · show some (zi (nI (n + 1) + -1)) = _
          rw [nI_succ, Int32.add_assoc, show (1 : Int32) + -1 = 0 from rfl, Int32.add_zero]
        · by_cases z : f = n + 1
          · rw [z]
            rw [mk_test a ha (n + 1) (by omega)] at h2
            cases z2 : a.testBit (n + 1) with
            | true => rw [z2] at h2; exact absurd h2 (by decide)
            | false => rfl
          · exact hz f (by omega)
      · refine z_co iX1_greatestOf_15 ?_
        refine z_il iX1_greatestOf_16 rfl ?_
        refine z_ishl iX1_greatestOf_17 ?_
        refine z_iret iX1_greatestOf_18 rfl ?_
        have hb : a.testBit (n + 1) = true := by
          rw [mk_test a ha (n + 1) (by omega)] at h2
          cases z : a.testBit (n + 1) with
          | true => rfl
          | false => rw [z] at h2; exact absurd rfl h2
        refine ⟨_, rfl, rfl, n + 1, mk_bit _ (by omega), hb, fun f hf => ?_⟩
        by_cases z : n + 1 < f
        · rw [hz f z] at hf
          exact absurd hf (by decide)
        · omega
set_option maxRecDepth 20000 in
set_option maxHeartbeats 4000000 in
theorem c1_greatestOf {fr : Nat} {M : zM} {a : Nat} (ha : a < 1024) (h0 : ¬ a = 0) : zCi zX1_greatestOf fr 0 0 [zi (nI a)] M (fun y M' => M' = M ∧ ∃ g, y = nI (2 ^ g) ∧ a.testBit g = true ∧ ∀ f, a.testBit f = true → f ≤ g) := by
  refine z_enter (L := [some (zi (nI a))]) rfl (by decide +kernel) (Nat.le_of_ble_eq_true rfl) ?_
  refine z_co iX1_greatestOf_0 ?_
  refine z_is iX1_greatestOf_2 ?_
  refine z_loc [some (zi (nI a)), some (zi (nI 9))] ⟨rfl, rfl, trivial⟩ ?_
  exact l1_greatest ha h0 9 0 rfl (fun f hf => by
    cases z : a.testBit f with
    | true => have := mBit_lt ha z; omega
    | false => rfl)
theorem tpP_l {C l v : Nat} {nx : Nat → Nat} {g : Nat} (h1 : ∀ f, l.testBit f = true ↔ C.testBit f = true ∧ nx f = v) (h2 : ∀ f, C.testBit f = true → nx f ≤ v) (h3 : l.testBit g = true) (h4 : ∀ f, l.testBit f = true → f ≤ g) : tpP C nx g := by
  obtain ⟨a1, a2⟩ := (h1 g).mp h3
  refine ⟨a1, fun f hf => ?_⟩
  by_cases z : nx f = v
  · exact Or.inr ⟨by omega, h4 f ((h1 f).mpr ⟨hf, z⟩)⟩
  · have := h2 f hf
    exact Or.inl (by omega)
set_option maxRecDepth 20000 in
set_option maxHeartbeats 4000000 in
theorem t1_out {fr : Nat} {M : zM} {N : Nat} {W P : Nat → Nat} {C s l v k : Nat} (hf : 1 ≤ fr) (hl : l < 1024) (h0 : ¬ l = 0) (h1 : ∀ f, l.testBit f = true ↔ C.testBit f = true ∧ (fun f => nxF (fun i => W (P i)) f (N - s) s) f = v) (h2 : ∀ f, C.testBit f = true → (fun f => nxF (fun i => W (P i)) f (N - s) s) f ≤ v) : zV zX1_outgoing fr 0 0 43 (zL [some (zr (9, 0)), some (zi (nI C)), some (zi (nI s)), some (zi (nI l)), some (zi (nI k))]) [] M (fun r M' => ∃ y, r = some (zi y) ∧ M' = M ∧ ∃ g, y = nI (2 ^ g) ∧ tpP C (fun f => nxF (fun i => W (P i)) f (N - s) s) g) := by
  refine z_il iX1_outgoing_43 rfl ?_
  refine z_cs1i (fr' := fr - 1) iX1_outgoing_44 zmX1_greatestOf (c1_greatestOf hl h0) (by omega) (Nat.le_of_ble_eq_true rfl) (fun x M1 hq => ?_)
  obtain ⟨rfl, g, rfl, g1, g2⟩ := hq
  refine z_iret iX1_outgoing_47 rfl ?_
  exact ⟨_, rfl, rfl, g, rfl, tpP_l h1 h2 g1 g2⟩
