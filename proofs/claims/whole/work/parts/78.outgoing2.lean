theorem nI_z {a : Nat} (ha : a < 1024) : nI a = 0 ↔ a = 0 := by
  constructor
  · intro h
    have e1 := nI_toInt (n := a) (by omega)
    rw [h] at e1
    simp only [Int32.reduceToInt] at e1
    omega
  · intro h; rw [h]; rfl
theorem mD_z {a b : Nat} (h : mD a b = 0) {f : Nat} (hf : a.testBit f = true) : b.testBit f = true := by
  have z : (mD a b).testBit f = false := by rw [h, Nat.zero_testBit]
  rw [mD_bit, hf, Bool.true_and] at z
  cases q : b.testBit f with
  | true => rfl
  | false => rw [q] at z; exact absurd z (by decide)
theorem mD_i {a b f : Nat} : (mD a b).testBit f = true ↔ a.testBit f = true ∧ b.testBit f = false := by
  rw [mD_bit]
  cases a.testBit f <;> cases b.testBit f <;> decide
set_option maxRecDepth 20000 in
set_option maxHeartbeats 4000000 in
theorem l1_out {fr : Nat} {M : zM} {N : Nat} {W P : Nat → Nat} {C s : Nat} (hJ : jxR M N W P) (hf : 1 ≤ fr) (hs : s ≤ N)  : ∀ (n i : Nat) (l : Nat), i + n = N → s ≤ i → l < 1024 → ¬ l = 0 → (∀ f, l.testBit f = true ↔ C.testBit f = true ∧ i ≤ nxF (fun i => W (P i)) f (N - s) s) → zV zX1_outgoing fr 0 0 5 (zL [some (zr (9, 0)), some (zi (nI C)), some (zi (nI s)), some (zi (nI l)), some (zi (nI i))]) [] M (fun r M' => ∃ y, r = some (zi y) ∧ M' = M ∧ ∃ g, y = nI (2 ^ g) ∧ tpP C (fun f => nxF (fun i => W (P i)) f (N - s) s) g) := by
  intro n
  induction n with
  | zero =>
    intro i l hn hsi hl h0 hz
    obtain ⟨⟨w, row, hjobs, hwa, hrow, hw, hr⟩, hN, hWl, hPl⟩ := hJ
    have hJ : jxR M N W P := ⟨⟨w, row, hjobs, hwa, hrow, hw, hr⟩, hN, hWl, hPl⟩
    have eN := nI_toInt (n := N) (by omega)
    have ei := nI_toInt (n := i) (by omega)
    have F := fun f => nxF_f (V := fun i => W (P i)) (f := f) (N - s) s
    have hNX : ∀ f, nxF (fun i => W (P i)) f (N - s) s = (fun f => nxF (fun i => W (P i)) f (N - s) s) f := fun f => rfl
    refine z_il iX1_outgoing_5 rfl ?_
    refine z_al iX1_outgoing_7 rfl ?_
    refine z_gf iX1_outgoing_8 hjobs rfl ?_
    refine z_icmp_ge iX1_outgoing_11 (fun h1 => ?_) (fun h1 => ?_)
    · have hiN : i = N := by omega
      refine z_loc [some (zr (9, 0)), some (zi (nI C)), some (zi (nI s)), some (zi (nI l)), some (zi (nI i))] ⟨rfl, rfl, rfl, rfl, rfl, trivial⟩ (t1_out (v := N) hf hl h0 (fun f => ?_) (fun f hf => ?_))
      · rw [hz f]
        have a := (F f).2.1
        constructor
        · intro q
          exact ⟨q.1, by have := q.2; show nxF (fun i => W (P i)) f (N - s) s = N; omega⟩
        · intro q
          exact ⟨q.1, by have q2 : nxF (fun i => W (P i)) f (N - s) s = N := q.2; omega⟩
      · have a := (F f).2.1
        show nxF (fun i => W (P i)) f (N - s) s ≤ N
        omega
    · exfalso
      simp only [zi_le, eN, ei] at h1
      omega
  | succ n ih =>
    intro i l hn hsi hl h0 hz
    obtain ⟨⟨w, row, hjobs, hwa, hrow, hw, hr⟩, hN, hWl, hPl⟩ := hJ
    have hJ : jxR M N W P := ⟨⟨w, row, hjobs, hwa, hrow, hw, hr⟩, hN, hWl, hPl⟩
    have eN := nI_toInt (n := N) (by omega)
    have ei := nI_toInt (n := i) (by omega)
    have F := fun f => nxF_f (V := fun i => W (P i)) (f := f) (N - s) s
    have hNX : ∀ f, nxF (fun i => W (P i)) f (N - s) s = (fun f => nxF (fun i => W (P i)) f (N - s) s) f := fun f => rfl
    refine z_il iX1_outgoing_5 rfl ?_
    refine z_al iX1_outgoing_7 rfl ?_
    refine z_gf iX1_outgoing_8 hjobs rfl ?_
    refine z_icmp_ge iX1_outgoing_11 (fun h1 => ?_) (fun h1 => ?_)
    · exfalso
      simp only [zi_le, eN, ei] at h1
      omega
    · refine z_il iX1_outgoing_14 rfl ?_
      refine z_al iX1_outgoing_15 rfl ?_
      refine z_il iX1_outgoing_16 rfl ?_
      refine z_cv1i (fr' := fr - 1) iX1_outgoing_18 zmX1_wantsAt hjobs (c1_wantsAt hJ (show i < N by omega)) (by omega) (Nat.le_of_ble_eq_true rfl) (fun x M1 hq => ?_)
      obtain ⟨rfl, rfl⟩ := hq
      refine z_co iX1_outgoing_21 ?_
      refine z_ixor iX1_outgoing_22 ?_
      refine z_iand iX1_outgoing_23 ?_
      rw [mk_D]
      refine z_is iX1_outgoing_24 ?_
      refine z_il iX1_outgoing_26 rfl ?_
      refine z_if_ne iX1_outgoing_28 (fun h2 => ?_) (fun h2 => ?_)
      · refine z_il iX1_outgoing_34 rfl ?_
        refine z_is iX1_outgoing_36 ?_
        refine z_in iX1_outgoing_37 rfl ?_
        refine z_goto iX1_outgoing_40 ?_
        have hm0 : ¬ mD l (W (P i)) = 0 := fun q => h2 ((nI_z (mD_lt hl)).mpr q)
        refine z_loc [some (zr (9, 0)), some (zi (nI C)), some (zi (nI s)), some (zi (nI (mD l (W (P i))))), some (zi (nI (i + 1)))] ⟨rfl, rfl, rfl, rfl, ?_, trivial⟩ (ih (i + 1) _ (by omega) (by omega) (mD_lt hl) hm0 (fun f => ?_))
        · show some (zi (nI i + 1)) = _
          rw [nI_1]
        · rw [mD_i, hz f]
          have a := F f
          constructor
          · intro q
            refine ⟨q.1.1, ?_⟩
            by_cases z : nxF (fun i => W (P i)) f (N - s) s = i
            · have b := a.2.2.2 (by omega)
              rw [z] at b
              have b2 : (W (P i)).testBit f = true := b
              rw [q.2] at b2
              exact absurd b2 (by decide)
            · have := q.1.2; omega
          · intro q
            exact ⟨⟨q.1, by have := q.2; omega⟩, a.2.2.1 i hsi (by have := q.2; omega)⟩
      · refine z_goto iX1_outgoing_31 ?_
        have hm0 : mD l (W (P i)) = 0 := (nI_z (mD_lt hl)).mp h2
        have G : ∀ f, C.testBit f = true → i ≤ nxF (fun i => W (P i)) f (N - s) s → nxF (fun i => W (P i)) f (N - s) s = i := fun f h8 h9 => by
          by_cases z : nxF (fun i => W (P i)) f (N - s) s = i
          · exact z
          · have a := (F f).2.2.1 i hsi (by omega)
            have b := mD_z hm0 ((hz f).mpr ⟨h8, h9⟩)
            rw [a] at b
            exact absurd b (by decide)
        refine z_loc [some (zr (9, 0)), some (zi (nI C)), some (zi (nI s)), some (zi (nI l)), some (zi (nI i))] ⟨rfl, rfl, rfl, rfl, rfl, trivial⟩ (t1_out (v := i) hf hl h0 (fun f => ?_) (fun f hf => ?_))
        · rw [hz f]
          constructor
          · intro q
            exact ⟨q.1, G f q.1 q.2⟩
          · intro q
            exact ⟨q.1, by have q2 : nxF (fun i => W (P i)) f (N - s) s = i := q.2; omega⟩
        · show nxF (fun i => W (P i)) f (N - s) s ≤ i
          by_cases z : i ≤ nxF (fun i => W (P i)) f (N - s) s
          · have := G f hf z; omega
          · omega
set_option maxRecDepth 20000 in
set_option maxHeartbeats 4000000 in
theorem c1_outgoing {fr : Nat} {M : zM} {N : Nat} {W P : Nat → Nat} {C s : Nat} (hC : C < 1024) (h0 : ¬ C = 0) (hJ : jxR M N W P) (hf : 1 ≤ fr) (hs : s ≤ N) : zCi zX1_outgoing fr 0 0 [zr (9, 0), zi (nI C), zi (nI s)] M (fun y M' => M' = M ∧ ∃ g, y = nI (2 ^ g) ∧ tpP C (fun f => nxF (fun i => W (P i)) f (N - s) s) g) := by
  refine z_enter (L := [some (zr (9, 0)), some (zi (nI C)), some (zi (nI s))]) rfl (by decide +kernel) (Nat.le_of_ble_eq_true rfl) ?_
  refine z_il iX1_outgoing_0 rfl ?_
  refine z_is iX1_outgoing_1 ?_
  refine z_il iX1_outgoing_2 rfl ?_
  refine z_is iX1_outgoing_3 ?_
  refine z_loc [some (zr (9, 0)), some (zi (nI C)), some (zi (nI s)), some (zi (nI C)), some (zi (nI s))] ⟨rfl, rfl, rfl, rfl, rfl, trivial⟩ ?_
  exact l1_out hJ hf hs (N - s) s C (by omega) (Nat.le_refl s) hC h0 (fun f => ⟨fun q => ⟨q, (nxF_f (V := fun i => W (P i)) (f := f) (N - s) s).1⟩, fun q => q.1⟩)
