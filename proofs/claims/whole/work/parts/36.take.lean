theorem zTk {I : zSI} {A : zSA} {L : zSL} (hV : Val I A L) {t : Int32} (h : zBw t 0 (I 1 - 1)) (h2 : ¬ A 17 (zN t) = -1) : zBw (A 17 (zN t)) 0 (I 8 - 1) ∧ (A 18 (zN t)).toInt = (zN (A 18 (zN t)) : Int) ∧ zN (A 18 (zN t)) + zN (A 14 (zN t)) ≤ zN (A 23 (zN (A 17 (zN t)))) := by
  have h3 := hV.2.2.1 (zN t) (zIdx h hV.1.2.1 (by decide)).2.1
  obtain ⟨g1, ⟨w1, w2⟩, ⟨g3, g4⟩, g5⟩ := h3
  have g6 : (A 17 (zN t)).toInt ≠ -1 := fun q => h2 (zi_eq.mpr (by simp only [Int32.reduceToInt]; exact q))
  have g7 := g5 (by omega)
  obtain ⟨i1, i2⟩ := hV.1.2.2.2.2.2.1
  have e0 : zN (A 18 (zN t)) = (A 18 (zN t)).toInt.toNat := rfl
  have e1 : zN (A 14 (zN t)) = (A 14 (zN t)).toInt.toNat := rfl
  have e2 : zN (A 23 (zN (A 17 (zN t)))) = (A 23 (A 17 (zN t)).toInt.toNat).toInt.toNat := rfl
  refine ⟨⟨zi_le.mpr (by simp only [Int32.reduceToInt]; omega), zi_le.mpr ?_⟩, by omega, by omega⟩
  rw [zsub (by simp only [Int32.reduceToInt]; omega) (by simp only [Int32.reduceToInt]; omega)]
  simp only [Int32.reduceToInt]
  omega
theorem zTk0 {I : zSI} {A : zSA} {L : zSL} (hV : Val I A L) {t : Int32} (h2 : ¬ zBw (A 17 (zN t)) 0 (I 8 - 1)) (h : zBw t 0 (I 1 - 1)) : A 17 (zN t) = -1 := Decidable.byContradiction fun q => h2 (zTk hV h q).1
theorem zTk1 {I : zSI} {A : zSA} {L : zSL} (hV : Val I A L) {x : Int32} (h2 : zBw x 0 (I 8 - 1)) : ¬ x = -1 := fun q => by
  rw [q] at h2
  exact absurd h2.1 (by decide)
set_option maxRecDepth 20000 in
set_option maxHeartbeats 4000000 in
theorem l11_take {fr : Nat} {M : zM} {I J : zSI} {A : zSA} {L : zSL} {K : Int64} (hR : RepM M I A L J K) (hV : Val I A L) {t : Int32} (ht : zBw t 0 (I 1 - 1)) (h17 : ¬ A 17 (zN t) = -1) : ∀ (n i : Nat), i + n = zN (A 14 (zN t)) → zV zX11_take fr 0 0 28 (zL [some (zr (40, 0)), some (zi t), some (zi (A 17 (zN t))), some (zi (nI i))]) [] (zupd M (41, 24) (.inl (0, 48, .inl (zFill (A 24) (16 * zN (A 17 (zN t)) + zN (A 18 (zN t))) i (-1))))) (fun r M' => ∃ x, r = some (zi x) ∧ zEM M x (sp_take I A L t) M') := by
  intro n
  induction n with
  | zero =>
    intro i  hn 
    have k1 := zTk hV ht h17
    have k2 := zM3 hV k1.1
    have k3 := (zWt hV ht).2
    have k4 := (zWt hV ht).1.2
    obtain ⟨k5, k6⟩ := zPl hV k1.1
    have e1 : zN (A 23 (zN (A 17 (zN t)))) = (A 23 (zN (A 17 (zN t)))).toInt.toNat := rfl
    refine z_il iX11_take_28 rfl ?_
    refine z_al iX11_take_29 rfl ?_
    refine z_gf iX11_take_30 ((zupd_k (Nat.ne_of_beq_eq_false rfl)).trans hR.1) rfl ?_
    refine z_il iX11_take_33 rfl ?_
    refine z_iald iX11_take_34 ((zupd_i (Nat.ne_of_beq_eq_false rfl)).trans (hR.2.1 14 (by decide))) (zT10 hV ht).1 (zT10 hV ht).2.1 ?_
    refine z_icmp_ge iX11_take_35 (fun h1 => ?_) (fun h1 => ?_)
    · refine z_al iX11_take_63 rfl ?_
      refine z_gf iX11_take_64 ((zupd_k (Nat.ne_of_beq_eq_false rfl)).trans hR.1) rfl ?_
      refine z_il iX11_take_67 rfl ?_
      refine z_co iX11_take_68 ?_
      refine z_iast iX11_take_69 ((zupd_i (Nat.ne_of_beq_eq_false rfl)).trans (hR.2.1 17 (by decide))) (by decide) (zT10 hV ht).1 (zT10 hV ht).2.1 ?_
      refine z_al iX11_take_70 rfl ?_
      refine z_gf iX11_take_71 ((zupd_k (Nat.ne_of_beq_eq_false rfl)).trans ((zupd_k (Nat.ne_of_beq_eq_false rfl)).trans hR.1)) rfl ?_
      refine z_il iX11_take_74 rfl ?_
      refine z_co iX11_take_75 ?_
      refine z_iast iX11_take_76 ((zupd_i (Nat.ne_of_beq_eq_false rfl)).trans ((zupd_i (Nat.ne_of_beq_eq_false rfl)).trans (hR.2.1 18 (by decide)))) (by decide) (zT10 hV ht).1 (zT10 hV ht).2.1 ?_
      refine z_il iX11_take_77 rfl ?_
      refine z_iret iX11_take_78 rfl ?_
      refine ⟨_, rfl, ?_⟩
      unfold sp_take
      rw [if_neg (fun q => q ht), if_neg h17]
      refine ⟨rfl, zfr (zfr (zfr zfr_nil (by decide)) (by decide)) (by decide), _, J, K, fun _ _ => rfl, ?_⟩
      have hi : i = zN (A 14 (zN t)) := by omega
      rw [hi]
      exact ((hR.arr 24 _).arr 17 _).arr 18 _
    · exact absurd (zi_le.mpr (by rw [nI_toInt (by omega)]; omega)) h1
  | succ n ih =>
    intro i  hn 
    have k1 := zTk hV ht h17
    have k2 := zM3 hV k1.1
    have k3 := (zWt hV ht).2
    have k4 := (zWt hV ht).1.2
    obtain ⟨k5, k6⟩ := zPl hV k1.1
    have e1 : zN (A 23 (zN (A 17 (zN t)))) = (A 23 (zN (A 17 (zN t)))).toInt.toNat := rfl
    refine z_il iX11_take_28 rfl ?_
    refine z_al iX11_take_29 rfl ?_
    refine z_gf iX11_take_30 ((zupd_k (Nat.ne_of_beq_eq_false rfl)).trans hR.1) rfl ?_
    refine z_il iX11_take_33 rfl ?_
    refine z_iald iX11_take_34 ((zupd_i (Nat.ne_of_beq_eq_false rfl)).trans (hR.2.1 14 (by decide))) (zT10 hV ht).1 (zT10 hV ht).2.1 ?_
    refine z_icmp_ge iX11_take_35 (fun h1 => ?_) (fun h1 => ?_)
    · exfalso
      have z1 := zi_le.mp h1
      rw [nI_toInt (by omega)] at z1
      omega
    · refine z_al iX11_take_38 rfl ?_
      refine z_gf iX11_take_39 ((zupd_k (Nat.ne_of_beq_eq_false rfl)).trans hR.1) rfl ?_
      refine z_co iX11_take_42 ?_
      refine z_il iX11_take_44 rfl ?_
      refine z_imul iX11_take_45 ?_
      refine z_al iX11_take_46 rfl ?_
      refine z_gf iX11_take_47 ((zupd_k (Nat.ne_of_beq_eq_false rfl)).trans hR.1) rfl ?_
      refine z_il iX11_take_50 rfl ?_
      refine z_iald iX11_take_51 ((zupd_i (Nat.ne_of_beq_eq_false rfl)).trans (hR.2.1 18 (by decide))) (zT10 hV ht).1 (zT10 hV ht).2.1 ?_
      refine z_iadd iX11_take_52 ?_
      refine z_il iX11_take_53 rfl ?_
      refine z_iadd iX11_take_54 ?_
      refine z_co iX11_take_55 ?_
      refine z_iast2 iX11_take_56 (by decide) (zaddN (zLin (C := 16) rfl k2.1 k1.2.1 (by omega)) (by omega) (by omega)) (show 16 * zN (A 17 (zN t)) + zN (A 18 (zN t)) + i < 48 by omega) ?_
      refine z_in iX11_take_57 rfl ?_
      refine z_goto iX11_take_60 ?_
      rw [zFill_1]
      refine z_loc [some (zr (40, 0)), some (zi t), some (zi (A 17 (zN t))), some (zi (nI (i + 1)))] ⟨rfl, rfl, rfl, ?_, trivial⟩ (ih (i + 1) (by omega))
      show some (zi (nI i + 1)) = _
      rw [nI_1]
set_option maxRecDepth 20000 in
set_option maxHeartbeats 4000000 in
theorem pm_take {fr : Nat} {M : zM} {I J : zSI} {A : zSA} {L : zSL} {K : Int64} (hf : 3 ≤ fr) (hR : RepM M I A L J K) (hV : Val I A L) (t : Int32) : zCi zX11_take fr 0 0 [zr (40, 0), zi t] M (fun x M' => zEM M x (sp_take I A L t) M') := by
  refine z_enter (L := [some (zr (40, 0)), some (zi t)]) rfl (by decide +kernel) (Nat.le_of_ble_eq_true rfl) ?_
  refine z_al iX11_take_0 rfl ?_
  refine z_il iX11_take_1 rfl ?_
  refine z_cv1i (fr' := fr - 1) iX11_take_2 zmX11_isTool hR.1 (c11_isTool (by omega) hR _) (by omega) (Nat.le_of_ble_eq_true rfl) (fun x M1 hq => ?_)
  obtain ⟨rfl, rfl⟩ := hq
  refine z_ib_ne iX11_take_5 (fun h1 => ?_) (fun h1 => ?_)
  · refine z_al iX11_take_11 rfl ?_
    refine z_gf iX11_take_12 hR.1 rfl ?_
    refine z_il iX11_take_15 rfl ?_
    refine z_iald iX11_take_16 (hR.2.1 17 (by decide)) (zT10 hV h1).1 (zT10 hV h1).2.1 ?_
    refine z_is iX11_take_17 ?_
    refine z_il iX11_take_18 rfl ?_
    refine z_co iX11_take_19 ?_
    refine z_icmp_ne iX11_take_20 (fun h2 => ?_) (fun h2 => ?_)
    · refine z_co iX11_take_26 ?_
      refine z_is iX11_take_27 ?_
      refine z_loc [some (zr (40, 0)), some (zi t), some (zi (A 17 (zN t))), some (zi (nI 0))] ⟨rfl, rfl, rfl, rfl, trivial⟩ ?_
      have h9 := l11_take (fr := fr) hR hV h1 h2 (zN (A 14 (zN t))) 0 (by omega)
      rw [zFill_0, zupd_same (show _ = some (.inl (0, 48, .inl (A 24))) from hR.2.1 24 (by decide))] at h9
      exact h9
    · refine z_co iX11_take_23 ?_
      refine z_iret iX11_take_25 rfl ?_
      refine ⟨_, rfl, ?_⟩
      unfold sp_take
      repeat' split
      all_goals first | exact zEM.rd hR | (exfalso; simp only [true_and, and_true, false_and, and_false, true_or, or_true, false_or, or_false, not_true_eq_false, not_false_eq_true, zN, zBw, zUnd, zCor, zi_eq, zi_le, zi_lt, Int32.reduceToInt, List.length_cons, List.length_nil] at *; omega)
  · refine z_co iX11_take_8 ?_
    refine z_iret iX11_take_10 rfl ?_
    refine ⟨_, rfl, ?_⟩
    unfold sp_take
    repeat' split
    all_goals first | exact zEM.rd hR | (exfalso; simp only [true_and, and_true, false_and, and_false, true_or, or_true, false_or, or_false, not_true_eq_false, not_false_eq_true, zN, zBw, zUnd, zCor, zi_eq, zi_le, zi_lt, Int32.reduceToInt, List.length_cons, List.length_nil] at *; omega)
set_option maxRecDepth 20000 in
set_option maxHeartbeats 4000000 in
theorem px_take {TR : zTR} {JR : zJR} {fr : Nat} {M : zM} {I : zSI} {A : zSA} {L : zSL} (hf : 4 ≤ fr) (hX : RepX TR JR M I A L) (hV : Val I A L) (t : Int32) : zCi zX10_take fr 0 0 [zr (2, 0), zi t] M (fun x M' => zEX TR JR M x (sp_take I A L t) M') := by
  refine z_enter (L := [some (zr (2, 0)), some (zi t)]) rfl (by decide +kernel) (Nat.le_of_ble_eq_true rfl) ?_
  refine z_al iX10_take_0 rfl ?_
  refine z_il iX10_take_1 rfl ?_
  refine z_cv1a (fr' := fr - 1) iX10_take_2 zmX10_toolOf hX.1.1 (c10_toolOf (by omega) hX hV _) (by omega) (Nat.le_of_ble_eq_true rfl) (fun x M1 hq => ?_)
  obtain ⟨rfl, rfl⟩ := hq
  refine z_as iX10_take_5 ?_
  refine z_alo iX10_take_6 rfl ?_
  refine z_ifnonnull iX10_take_7 (fun x1 h1 => ?_) (fun h1 => ?_)
  · rw [h1]
    obtain ⟨qh1, rfl⟩ := xo_s h1
    have htool := hX.2.2.1.1 _ (zIdx qh1 hV.1.2.1 (by decide)).2.1
    refine z_al iX10_take_13 rfl ?_
    refine z_gf iX10_take_14 htool rfl ?_
    refine z_is iX10_take_17 ?_
    refine z_al iX10_take_18 rfl ?_
    refine z_il iX10_take_19 rfl ?_
    refine z_cv1a (fr' := fr - 1) iX10_take_20 zmX10_machineOf hX.1.1 (c10_machineOf (by omega) hX hV _) (by omega) (Nat.le_of_ble_eq_true rfl) (fun x M1 hq => ?_)
    obtain ⟨rfl, rfl⟩ := hq
    refine z_as iX10_take_23 ?_
    refine z_alo iX10_take_25 rfl ?_
    refine z_ifnonnull iX10_take_27 (fun x2 h2 => ?_) (fun h2 => ?_)
    · rw [h2]
      obtain ⟨qh2, rfl⟩ := xo_s h2
      have hmach := (hX.2.2.2.1.1 _ (zIdx qh2 hV.1.2.2.2.2.2.1 (by decide)).2.1).1
      obtain ⟨fm, hheld, hfm⟩ := (hX.2.2.2.1.1 _ (zIdx qh2 hV.1.2.2.2.2.2.1 (by decide)).2.1).2
      refine z_al iX10_take_33 rfl ?_
      refine z_al iX10_take_35 rfl ?_
      refine z_gf iX10_take_36 htool rfl ?_
      refine z_al iX10_take_39 rfl ?_
      refine z_gf iX10_take_40 htool rfl ?_
      refine z_co iX10_take_43 ?_
      refine z_cv3v (fr' := fr - 1) iX10_take_44 zmX2_hold hmach (c2_hold (zPl hV qh2) (show 2 ≤ 32 by decide) (show (31 : Nat) ≠ 32 by decide) hmach hheld (by omega) _ _ _ (zTk hV qh1 (zTk1 hV qh2)).2.1 (zWt hV qh1).2 (zTk hV qh1 (zTk1 hV qh2)).2.2) (by omega) (Nat.le_of_ble_eq_true rfl) (fun M1 hq => ?_)
      obtain rfl := hq
      refine z_al iX10_take_47 rfl ?_
      refine z_co iX10_take_48 ?_
      refine z_pf iX10_take_49 ((zupd_k (Nat.ne_of_beq_eq_false rfl)).trans htool) (by decide : 2 ≤ 30) (Nat.le_of_ble_eq_true rfl) trivial ?_
      refine z_al iX10_take_52 rfl ?_
      refine z_co iX10_take_53 ?_
      refine z_pf2 iX10_take_54 (by decide : 2 ≤ 30) (Nat.le_of_ble_eq_true rfl) trivial ?_
      refine z_il iX10_take_57 rfl ?_
      refine z_iret iX10_take_58 rfl ?_
      refine ⟨_, rfl, ?_⟩
      unfold sp_take
      rw [if_neg (fun q => q qh1), if_neg (zTk1 hV qh2)]
      have k1 := zTk hV qh1 (zTk1 hV qh2)
      have qh2' : zBw (A 17 (zN t)) 0 (I 8 - 1) := qh2
      have k2 := zM3 hV qh2'
      have k7 := zPl hV qh2'
      have k6 := k7.2
      have e1 : zN (A 23 (zN (A 17 (zN t)))) = (A 23 (zN (A 17 (zN t)))).toInt.toNat := rfl
      refine ⟨rfl, zfx (zfx zfx_nil ⟨(by decide : 2 ≤ 32), (by decide : 32 < 40)⟩) ⟨(by decide : 2 ≤ 30), (by decide : 30 < 40)⟩, ?_⟩
      refine RepX.tool (A := zup A 24 (zFill (A 24) (16 * zN (A 17 (zN t)) + zN (A 18 (zN t))) (zN (A 14 (zN t))) (-1))) (hX.held (A' := zup A 24 (zFill (A 24) (16 * zN (A 17 (zN t)) + zN (A 18 (zN t))) (zN (A 14 (zN t))) (-1))) k2.2.2 (fun j hj => ?_) (fun k h1 h2 => zup_n h2) (fun j hj => ?_)) (zIdx qh1 hV.1.2.1 (by decide)).2.1 (by simp [xTool, sA_take, zA2, zup]) (fun k g1 g2 => ?_) (fun k g1 g3 j g2 => ?_)
      · rw [zup_s]
        by_cases z : zN (A 18 (zN t)) ≤ j ∧ j < zN (A 18 (zN t)) + zN (A 14 (zN t))
        · rw [zFill_s z, zFill_s (by omega)]
        · rw [zFill_n z, zFill_n (by omega)]; exact hfm j hj
      · rw [zup_s, zFill_n (by omega)]
      · exact (zA2_row (show k ≠ 18 by omega)).trans (zA2_row (show k ≠ 17 by omega))
      · exact (zA2_col g2).trans (zA2_col g2)
    · refine z_co iX10_take_30 ?_
      refine z_iret iX10_take_32 rfl ?_
      refine ⟨_, rfl, ?_⟩
      unfold sp_take
      first | (have hn := xo_n h1; rw [if_pos hn]; exact zEX.rd hX) | (have hn := xo_n h2; rw [if_neg (fun q => q qh1), if_pos (zTk0 hV hn qh1)]; exact zEX.rd hX)
  · refine z_co iX10_take_10 ?_
    refine z_iret iX10_take_12 rfl ?_
    refine ⟨_, rfl, ?_⟩
    unfold sp_take
    first | (have hn := xo_n h1; rw [if_pos hn]; exact zEX.rd hX) | (have hn := xo_n h2; rw [if_neg (fun q => q qh1), if_pos (zTk0 hV hn qh1)]; exact zEX.rd hX)
theorem zp_take {TR : zTR} {JR : zJR} (t : Int32) : zPI (zInv TR JR) zX10_take zX11_take 0 0 [zi t] :=
  zPI_of (fun I A L => sp_take I A L t) (fun _ _ _ _ _ hf hX hV => px_take (by omega) hX hV t) (fun _ _ _ _ _ _ _ hf hR hV => pm_take (by omega) hR hV t) (fun I A L hV => by
    show Val (sp_take I A L t).2.1 (sp_take I A L t).2.2.1 (sp_take I A L t).2.2.2
    unfold sp_take
    by_cases c1 : ¬ zBw t 0 (I 1 - 1)
    · rw [if_pos c1]; exact hV
    · rw [if_neg c1]
      have c1 := Decidable.of_not_not c1
      by_cases c2 : A 17 (zN t) = -1
      · rw [if_pos c2]; exact hV
      · rw [if_neg c2]
        have k1 := zTk hV c1 c2
        have k2 := zM3 hV k1.1
        have k7 := zPl hV k1.1
        have k6 := k7.2
        have e1 : zN (A 23 (zN (A 17 (zN t)))) = (A 23 (zN (A 17 (zN t)))).toInt.toNat := rfl
        obtain ⟨h1, h2, h3, h4, h5, h6, h7, h8⟩ := hV
        have r : ∀ k, k ≠ 24 → k ≠ 17 → k ≠ 18 → sA_take A (zN (A 17 (zN t))) (zN t) k = A k := fun k a b c => by
          unfold sA_take
          rw [zA2_row c, zA2_row b, zup_n a]
        have cc : ∀ k j, k ≠ 24 → j ≠ zN t → sA_take A (zN (A 17 (zN t))) (zN t) k j = A k j := fun k j a b => by
          unfold sA_take
          rw [zA2_col b, zA2_col b, zup_n a]
        show Val I (sA_take A (zN (A 17 (zN t))) (zN t)) L
        refine ⟨h1, ?_, fun u hu => ?_, ?_, ?_, ?_, ?_, fun q g1 g2 => ?_⟩
        · rw [r 0 (by decide) (by decide) (by decide), r 4 (by decide) (by decide) (by decide), r 5 (by decide) (by decide) (by decide), r 11 (by decide) (by decide) (by decide)]; exact h2
        · rw [r 13 (by decide) (by decide) (by decide), r 14 (by decide) (by decide) (by decide), r 23 (by decide) (by decide) (by decide)]
          by_cases z : u = zN t
          · have a17 : sA_take A (zN (A 17 (zN t))) (zN t) 17 u = -1 := by simp [sA_take, zA2, zup, z]
            rw [a17]
            have g3 := h3 u hu
            have := h1.2.2.2.2.2.1.1
            exact ⟨g3.1, g3.2.1, ⟨by decide, by simp only [Int32.reduceToInt]; omega⟩, fun z => absurd z (by decide)⟩
          · rw [cc 17 u (by decide) z, cc 18 u (by decide) z]
            exact h3 u hu
        · rw [r 23 (by decide) (by decide) (by decide), r 22 (by decide) (by decide) (by decide)]; exact h4
        · rw [r 20 (by decide) (by decide) (by decide)]; exact h5
        · rw [r 25 (by decide) (by decide) (by decide)]; exact h6
        · rw [r 26 (by decide) (by decide) (by decide), r 27 (by decide) (by decide) (by decide), r 28 (by decide) (by decide) (by decide)]; exact h7
        · have a24 : sA_take A (zN (A 17 (zN t))) (zN t) 24 = zFill (A 24) (16 * zN (A 17 (zN t)) + zN (A 18 (zN t))) (zN (A 14 (zN t))) (-1) := by simp [sA_take, zA2, zup]
          rw [a24, zFill_n (by omega)]
          exact h8 q g1 g2)
