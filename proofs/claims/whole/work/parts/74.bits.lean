/-- how many of the first ten bits stand -/
def zPop (n : Nat) : Nat := ((List.range 10).filter (fun f => n.testBit f)).length
theorem zPop_f : ∀ n, n < 1024 → zPop n ≤ 10 ∧ (zPop n = 0 → n = 0) ∧ (¬ n = 0 → nI n &&& (nI n - 1) = nI (n &&& (n - 1)) ∧ zPop (n &&& (n - 1)) + 1 = zPop n ∧ n &&& (n - 1) < 1024) := by decide +kernel
set_option maxRecDepth 20000 in
set_option maxHeartbeats 4000000 in
theorem c6_bitCount {fr : Nat} {M : zM} {n : Nat} (hn : n < 1024) : zCi zJ6_bitCount_0f7a4 fr 0 0 [zi (nI n)] M (fun x M' => M' = M ∧ x = nI (zPop n)) := by
  refine z_enter (L := [some (zi (nI n))]) rfl (by decide +kernel) (Nat.le_of_ble_eq_true rfl) ?_
  refine z_il iJ6_bitCount_0f7a4_0 rfl ?_
  refine z_il iJ6_bitCount_0f7a4_1 rfl ?_
  refine z_co iJ6_bitCount_0f7a4_2 ?_
  refine z_iushr iJ6_bitCount_0f7a4_3 ?_
  refine z_co iJ6_bitCount_0f7a4_4 ?_
  refine z_iand iJ6_bitCount_0f7a4_7 ?_
  refine z_isub iJ6_bitCount_0f7a4_8 ?_
  refine z_is iJ6_bitCount_0f7a4_9 ?_
  refine z_il iJ6_bitCount_0f7a4_10 rfl ?_
  refine z_co iJ6_bitCount_0f7a4_11 ?_
  refine z_iand iJ6_bitCount_0f7a4_14 ?_
  refine z_il iJ6_bitCount_0f7a4_15 rfl ?_
  refine z_co iJ6_bitCount_0f7a4_16 ?_
  refine z_iushr iJ6_bitCount_0f7a4_17 ?_
  refine z_co iJ6_bitCount_0f7a4_18 ?_
  refine z_iand iJ6_bitCount_0f7a4_21 ?_
  refine z_iadd iJ6_bitCount_0f7a4_22 ?_
  refine z_is iJ6_bitCount_0f7a4_23 ?_
  refine z_il iJ6_bitCount_0f7a4_24 rfl ?_
  refine z_il iJ6_bitCount_0f7a4_25 rfl ?_
  refine z_co iJ6_bitCount_0f7a4_26 ?_
  refine z_iushr iJ6_bitCount_0f7a4_27 ?_
  refine z_iadd iJ6_bitCount_0f7a4_28 ?_
  refine z_co iJ6_bitCount_0f7a4_29 ?_
  refine z_iand iJ6_bitCount_0f7a4_32 ?_
  refine z_is iJ6_bitCount_0f7a4_33 ?_
  refine z_il iJ6_bitCount_0f7a4_34 rfl ?_
  refine z_il iJ6_bitCount_0f7a4_35 rfl ?_
  refine z_co iJ6_bitCount_0f7a4_36 ?_
  refine z_iushr iJ6_bitCount_0f7a4_38 ?_
  refine z_iadd iJ6_bitCount_0f7a4_39 ?_
  refine z_is iJ6_bitCount_0f7a4_40 ?_
  refine z_il iJ6_bitCount_0f7a4_41 rfl ?_
  refine z_il iJ6_bitCount_0f7a4_42 rfl ?_
  refine z_co iJ6_bitCount_0f7a4_43 ?_
  refine z_iushr iJ6_bitCount_0f7a4_45 ?_
  refine z_iadd iJ6_bitCount_0f7a4_46 ?_
  refine z_is iJ6_bitCount_0f7a4_47 ?_
  refine z_il iJ6_bitCount_0f7a4_48 rfl ?_
  refine z_co iJ6_bitCount_0f7a4_49 ?_
  refine z_iand iJ6_bitCount_0f7a4_51 ?_
  refine z_iret iJ6_bitCount_0f7a4_52 rfl ?_
  refine ⟨_, rfl, rfl, ?_⟩
  revert n
  decide +kernel
set_option maxRecDepth 20000 in
set_option maxHeartbeats 4000000 in
theorem l11_bits {fr : Nat} {M : zM} {w : Nat} (hw : w < 1024)  : ∀ (n i : Nat) (r : Nat), i + n = zPop w → r < 1024 → zPop r = n → zV zX11_bits fr 0 0 4 (zL [some (zi (nI w)), some (zi (nI i)), some (zi (nI r))]) [] M (fun x M' => ∃ y, x = some (zi y) ∧ M' = M ∧ y = nI (zPop w)) := by
  intro n
  induction n with
  | zero =>
    intro i r hn hr hz
    refine z_il iX11_bits_4 rfl ?_
    refine z_if_eq iX11_bits_5 (fun h1 => ?_) (fun h1 => ?_)
    · refine z_il iX11_bits_20 rfl ?_
      refine z_iret iX11_bits_21 rfl ?_
      exact ⟨_, rfl, rfl, by rw [show i = zPop w by omega]⟩
    · exact absurd (by rw [(zPop_f r hr).2.1 hz]; rfl) h1
  | succ n ih =>
    intro i r hn hr hz
    refine z_il iX11_bits_4 rfl ?_
    refine z_if_eq iX11_bits_5 (fun h1 => ?_) (fun h1 => ?_)
    · exact absurd h1 (fun q => by
        have e1 := nI_toInt (n := r) (by omega)
        rw [q] at e1
        simp only [Int32.reduceToInt] at e1
        have e2 : zPop r = 0 := by rw [show r = 0 by omega]; decide
        omega)
    · refine z_in iX11_bits_8 rfl ?_
      refine z_il iX11_bits_11 rfl ?_
      refine z_il iX11_bits_12 rfl ?_
      refine z_co iX11_bits_13 ?_
      refine z_isub iX11_bits_14 ?_
      refine z_iand iX11_bits_15 ?_
      refine z_is iX11_bits_16 ?_
      refine z_goto iX11_bits_17 ?_
      have hr0 : ¬ r = 0 := fun q => by
        have e2 : zPop r = 0 := by rw [q]; decide
        omega
      obtain ⟨k1, k2, k3⟩ := (zPop_f r hr).2.2 hr0
      refine z_loc [some (zi (nI w)), some (zi (nI (i + 1))), some (zi (nI (r &&& (r - 1))))] ⟨rfl, ?_, ?_, trivial⟩ (ih (i + 1) _ (by omega) k3 (by omega))
      · show some (zi (nI i + 1)) = _
        rw [nI_1]
      · show some (zi (nI r &&& (nI r - 1))) = _
        rw [k1]
set_option maxRecDepth 20000 in
set_option maxHeartbeats 4000000 in
theorem c11_bits {fr : Nat} {M : zM} {w : Nat} (hw : w < 1024) : zCi zX11_bits fr 0 0 [zi (nI w)] M (fun x M' => M' = M ∧ x = nI (zPop w)) := by
  refine z_enter (L := [some (zi (nI w))]) rfl (by decide +kernel) (Nat.le_of_ble_eq_true rfl) ?_
  refine z_co iX11_bits_0 ?_
  refine z_is iX11_bits_1 ?_
  refine z_il iX11_bits_2 rfl ?_
  refine z_is iX11_bits_3 ?_
  refine z_loc [some (zi (nI w)), some (zi (nI 0)), some (zi (nI w))] ⟨rfl, rfl, rfl, trivial⟩ ?_
  exact l11_bits hw (zPop w) 0 w (by omega) hw rfl
