theorem mk_add (a b : Nat) : nI a + nI b = nI (a + b) := by
  apply Int32.toBitVec_inj.mp
  show BitVec.ofNat 32 a + BitVec.ofNat 32 b = BitVec.ofNat 32 (a + b)
  apply BitVec.eq_of_toNat_eq
  simp only [BitVec.toNat_add, BitVec.toNat_ofNat]
  omega
/-- what the changes of a row come to -/
def chX (V : Nat → Nat) (N R : Nat) (x : Int32) : Prop := (∃ i, i < N ∧ R < zPop (V i)) ∧ x = -1 ∨ (∀ i, i < N → zPop (V i) ≤ R) ∧ ∃ t d, chP V N R N t d ∧ x = nI d
set_option maxRecDepth 20000 in
set_option maxHeartbeats 4000000 in
theorem l1_changes {fr : Nat} {M : zM} {N R : Nat} {W P : Nat → Nat} (hJ : jxR M N W P) (hf : 3 ≤ fr) (hR : R ≤ 9)  : ∀ (n i : Nat) (t d : Nat), i + n = N → chP (fun i => W (P i)) N R i t d → t < 1024 → (∀ k, k < i → zPop (W (P k)) ≤ R) → zV zX1_changesOfRow fr 0 0 7 (zL [some (zr (9, 0)), some (zi (nI R)), some (zi (nI t)), some (zi (nI d)), some (zi (nI i))]) [] M (fun r M' => ∃ x, r = some (zi x) ∧ M' = M ∧ chX (fun i => W (P i)) N R x) := by
  intro n
  induction n with
  | zero =>
    intro i t d hn hch ht hall
    obtain ⟨⟨jw, row, hjobs, hwa, hrow, hjw, hjr⟩, hN, hWl, hPl⟩ := hJ
    have hJ : jxR M N W P := ⟨⟨jw, row, hjobs, hwa, hrow, hjw, hjr⟩, hN, hWl, hPl⟩
    have eN := nI_toInt (n := N) (by omega)
    have ei := nI_toInt (n := i) (by omega)
    have eR := nI_toInt (n := R) (by omega)
    refine z_il iX1_changesOfRow_7 rfl ?_
    refine z_al iX1_changesOfRow_9 rfl ?_
    refine z_gf iX1_changesOfRow_10 hjobs rfl ?_
    refine z_icmp_ge iX1_changesOfRow_13 (fun h1 => ?_) (fun h1 => ?_)
    · refine z_il iX1_changesOfRow_96 rfl ?_
      refine z_iret iX1_changesOfRow_97 rfl ?_
      have hiN : i = N := by omega
      subst hiN
      exact ⟨_, rfl, rfl, Or.inr ⟨hall, t, d, hch, rfl⟩⟩
    · exfalso
      simp only [zi_le, eN, ei] at h1
      omega
  | succ n ih =>
    intro i t d hn hch ht hall
    obtain ⟨⟨jw, row, hjobs, hwa, hrow, hjw, hjr⟩, hN, hWl, hPl⟩ := hJ
    have hJ : jxR M N W P := ⟨⟨jw, row, hjobs, hwa, hrow, hjw, hjr⟩, hN, hWl, hPl⟩
    have eN := nI_toInt (n := N) (by omega)
    have ei := nI_toInt (n := i) (by omega)
    have eR := nI_toInt (n := R) (by omega)
    refine z_il iX1_changesOfRow_7 rfl ?_
    refine z_al iX1_changesOfRow_9 rfl ?_
    refine z_gf iX1_changesOfRow_10 hjobs rfl ?_
    refine z_icmp_ge iX1_changesOfRow_13 (fun h1 => ?_) (fun h1 => ?_)
    · exfalso
      simp only [zi_le, eN, ei] at h1
      omega
    · refine z_al iX1_changesOfRow_16 rfl ?_
      refine z_il iX1_changesOfRow_17 rfl ?_
      refine z_cv1i (fr' := fr - 1) iX1_changesOfRow_19 zmX1_wantsAt hjobs (c1_wantsAt hJ (show i < N by omega)) (by omega) (Nat.le_of_ble_eq_true rfl) (fun x M1 hq => ?_)
      obtain ⟨rfl, rfl⟩ := hq
      have hw : W (P i) < 1024 := hWl _ (hPl i (by omega))
      refine z_is iX1_changesOfRow_22 ?_
      refine z_il iX1_changesOfRow_24 rfl ?_
      refine z_cs1i (fr' := fr - 1) iX1_changesOfRow_26 zmJ6_bitCount_0f7a4 (c6_bitCount hw) (by omega) (Nat.le_of_ble_eq_true rfl) (fun x M1 hq => ?_)
      obtain ⟨rfl, rfl⟩ := hq
      refine z_il iX1_changesOfRow_29 rfl ?_
      refine z_icmp_le iX1_changesOfRow_30 (fun h2 => ?_) (fun h2 => ?_)
      · refine z_il iX1_changesOfRow_35 rfl ?_
        refine z_il iX1_changesOfRow_36 rfl ?_
        refine z_il iX1_changesOfRow_38 rfl ?_
        refine z_co iX1_changesOfRow_39 ?_
        refine z_ixor iX1_changesOfRow_40 ?_
        refine z_iand iX1_changesOfRow_41 ?_
        rw [mk_D]
        refine z_cs1i (fr' := fr - 1) iX1_changesOfRow_42 zmJ6_bitCount_0f7a4 (c6_bitCount (mD_lt hw)) (by omega) (Nat.le_of_ble_eq_true rfl) (fun x M1 hq => ?_)
        obtain ⟨rfl, rfl⟩ := hq
        refine z_iadd iX1_changesOfRow_45 ?_
        refine z_is iX1_changesOfRow_46 ?_
        refine z_il iX1_changesOfRow_47 rfl ?_
        refine z_il iX1_changesOfRow_48 rfl ?_
        refine z_ior iX1_changesOfRow_50 ?_
        rw [mk_or]
        refine z_is iX1_changesOfRow_51 ?_
        refine z_il iX1_changesOfRow_52 rfl ?_
        refine z_cs1i (fr' := fr - 1) iX1_changesOfRow_53 zmJ6_bitCount_0f7a4 (c6_bitCount (mOr_lt ht hw)) (by omega) (Nat.le_of_ble_eq_true rfl) (fun x M1 hq => ?_)
        obtain ⟨rfl, rfl⟩ := hq
        refine z_il iX1_changesOfRow_56 rfl ?_
        refine z_isub iX1_changesOfRow_57 ?_
        refine z_is iX1_changesOfRow_58 ?_
        have hC : mD t (W (P i)) < 1024 := mD_lt ht
        have q1 := zPop_tw (t := t) (w := W (P i))
        have q2 := (zPop_f _ hw).1
        have q3 := (zPop_f _ hC).1
        have e2 := nI_toInt (n := zPop (W (P i))) (by omega)
        have hle : zPop (W (P i)) ≤ R := by
          simp only [zi_le, e2, eR] at h2
          omega
        have e3 := nI_toInt (n := zPop (t ||| W (P i))) (by omega)
        have e4 : (nI (zPop (t ||| W (P i))) - nI R).toInt = (zPop (t ||| W (P i)) : Int) - (R : Int) := by rw [zsub (by omega) (by omega), e3, eR]
        refine z_loc [some (zr (9, 0)), some (zi (nI R)), some (zi (nI (W (P i) ||| mD t (W (P i))))), some (zi (nI (d + zPop (mD (W (P i)) t)))), some (zi (nI i)), some (zi (nI (W (P i)))), some (zi (nI (zPop (t ||| W (P i))) - nI R))] ⟨rfl, rfl, ?_, ?_, rfl, rfl, rfl, trivial⟩ (l1_goings hJ (by omega) (by omega) hw hC (fun f hf => mDw hf) (m := zPop (t ||| W (P i)) - R) (by omega) (fun E hE => ?_) (zPop (t ||| W (P i)) - R) 0 _ _ (by omega) rfl (by omega))
        · show some (zi (nI (t ||| W (P i)))) = _
          rw [← mOr_eq]
        · show some (zi (nI d + nI (zPop (mD (W (P i)) t)))) = _
          rw [mk_add]
        · have hE2 := (evP_f hC hE).1
          refine z_in iX1_changesOfRow_90 rfl ?_
          refine z_goto iX1_changesOfRow_93 ?_
          refine z_loc [some (zr (9, 0)), some (zi (nI R)), some (zi (nI (W (P i) ||| E))), some (zi (nI (d + zPop (mD (W (P i)) t)))), some (zi (nI (i + 1)))] ⟨rfl, rfl, rfl, rfl, ?_, trivial⟩ (ih (i + 1) _ _ (by omega) ⟨t, d, E, hch, rfl, hE, rfl⟩ (mOr_lt hw hE2) (fun k hk => ?_))
          · show some (zi (nI i + 1)) = _
            rw [nI_1]
          · by_cases z : k = i
            · rw [z]; exact hle
            · exact hall k (by omega)
      · refine z_co iX1_changesOfRow_33 ?_
        refine z_iret iX1_changesOfRow_34 rfl ?_
        refine ⟨_, rfl, rfl, Or.inl ⟨⟨i, by omega, ?_⟩, rfl⟩⟩
        have e2 := nI_toInt (n := zPop (W (P i))) (by have := (zPop_f _ hw).1; omega)
        simp only [zi_le, e2, eR] at h2
        show R < zPop (W (P i))
        omega
set_option maxRecDepth 20000 in
set_option maxHeartbeats 4000000 in
theorem c1_changesOfRow {fr : Nat} {M : zM} {N R : Nat} {W P : Nat → Nat} (hJ : jxR M N W P) (hf : 3 ≤ fr) (hR : R ≤ 9) : zCi zX1_changesOfRow fr 0 0 [zr (9, 0), zi (nI R)] M (fun x M' => M' = M ∧ chX (fun i => W (P i)) N R x) := by
  refine z_enter (L := [some (zr (9, 0)), some (zi (nI R))]) rfl (by decide +kernel) (Nat.le_of_ble_eq_true rfl) ?_
  refine z_co iX1_changesOfRow_0 ?_
  refine z_is iX1_changesOfRow_1 ?_
  refine z_co iX1_changesOfRow_2 ?_
  refine z_is iX1_changesOfRow_3 ?_
  refine z_co iX1_changesOfRow_4 ?_
  refine z_is iX1_changesOfRow_5 ?_
  refine z_loc [some (zr (9, 0)), some (zi (nI R)), some (zi (nI 0)), some (zi (nI 0)), some (zi (nI 0))] ⟨rfl, rfl, rfl, rfl, rfl, trivial⟩ ?_
  exact l1_changes hJ hf hR N 0 0 0 (by omega) ⟨rfl, rfl⟩ (by decide) (fun k hk => absurd hk (Nat.not_lt_zero k))
