theorem zLin {c e i : Int32} {C j k : Nat} (hc : c.toInt = (C : Int)) (he : e.toInt = (j : Int)) (hi : i.toInt = (k : Int)) (hb : C * j + k < 100000) : (c * e + i).toInt = ((C * j + k : Nat) : Int) := by
  have e1 : (C : Int) * j = ((C * j : Nat) : Int) := by simp
  have e2 : (c * e).toInt = ((C * j : Nat) : Int) := by
    rw [zmul (by rw [hc, he, e1]; omega) (by rw [hc, he, e1]; omega), hc, he, e1]
  rw [zadd (by omega) (by omega), e2, hi]
  omega
def zNom (A : zSA) (t : Nat) : Int32 := A 12 t + A 1 (zN (A 13 t))
def sp_trail (I : zSI) (A : zSA) (L : zSL) (e i : Int32) : zRes := if ¬ zBw e 0 (I 0 - 1) then (-2, I, A, L) else if zBw i 0 (A 11 (zN e) - 1) then (A 10 (8 * zN e + zN i), I, A, L) else (-1, I, A, L)
def sp_toolTold (I : zSI) (A : zSA) (L : zSL) (t w : Int32) : zRes := (if ¬ zBw t 0 (I 1 - 1) then -2 else if w = 0 then A 12 (zN t) else if w = 1 then A 13 (zN t) else if w = 2 then A 14 (zN t) else if w = 3 then A 15 (zN t) else if w = 4 then zNom A (zN t) else if w = 5 then A 16 (zN t) else if w = 6 then A 17 (zN t) else if w = 7 then A 18 (zN t) else -2, I, A, L)
def sp_measure (I : zSI) (A : zSA) (L : zSL) (t : Int32) : zRes := if ¬ zBw t 0 (I 1 - 1) then (-2, I, A, L) else (zReads (I 2) (I 3) (zNom A (zN t)) + I 4, I, zA2 A 16 (zN t) (zReads (I 2) (I 3) (zNom A (zN t)) + I 4), L)
set_option maxRecDepth 20000 in
set_option maxHeartbeats 4000000 in
theorem c11_isTool {fr : Nat} {M : zM} {I J : zSI} {A : zSA} {L : zSL} {K : Int64} (hf : 1 ≤ fr) (hR : RepM M I A L J K) (e : Int32) : zCi zX11_isTool fr 0 0 [zr (40, 0), zi e] M (fun x M' => M' = M ∧ x = zbo (zBw e 0 (I 1 - 1))) := by
  refine z_enter (L := [some (zr (40, 0)), some (zi e)]) rfl (by decide +kernel) (Nat.le_of_ble_eq_true rfl) ?_
  refine z_il iX11_isTool_0 rfl ?_
  refine z_co iX11_isTool_1 ?_
  refine z_al iX11_isTool_2 rfl ?_
  refine z_gf iX11_isTool_3 hR.1 rfl ?_
  refine z_co iX11_isTool_6 ?_
  refine z_isub iX11_isTool_7 ?_
  refine z_cs3i (fr' := fr - 1) iX11_isTool_8 zmX11_in (c11_in _ _ _) (by omega) (Nat.le_of_ble_eq_true rfl) (fun x M1 hq => ?_)
  obtain ⟨rfl, rfl⟩ := hq
  refine z_bret iX11_isTool_11 rfl ?_
  exact ⟨_, rfl, rfl, rfl⟩
set_option maxRecDepth 20000 in
set_option maxHeartbeats 4000000 in
theorem c11_isMachine {fr : Nat} {M : zM} {I J : zSI} {A : zSA} {L : zSL} {K : Int64} (hf : 1 ≤ fr) (hR : RepM M I A L J K) (e : Int32) : zCi zX11_isMachine fr 0 0 [zr (40, 0), zi e] M (fun x M' => M' = M ∧ x = zbo (zBw e 0 (I 8 - 1))) := by
  refine z_enter (L := [some (zr (40, 0)), some (zi e)]) rfl (by decide +kernel) (Nat.le_of_ble_eq_true rfl) ?_
  refine z_il iX11_isMachine_0 rfl ?_
  refine z_co iX11_isMachine_1 ?_
  refine z_al iX11_isMachine_2 rfl ?_
  refine z_gf iX11_isMachine_3 hR.1 rfl ?_
  refine z_co iX11_isMachine_6 ?_
  refine z_isub iX11_isMachine_7 ?_
  refine z_cs3i (fr' := fr - 1) iX11_isMachine_8 zmX11_in (c11_in _ _ _) (by omega) (Nat.le_of_ble_eq_true rfl) (fun x M1 hq => ?_)
  obtain ⟨rfl, rfl⟩ := hq
  refine z_bret iX11_isMachine_11 rfl ?_
  exact ⟨_, rfl, rfl, rfl⟩
set_option maxRecDepth 20000 in
set_option maxHeartbeats 4000000 in
theorem c11_nominal {fr : Nat} {M : zM} {I J : zSI} {A : zSA} {L : zSL} {K : Int64} (hR : RepM M I A L J K) (t : Int32) {j : Nat} (hi : t.toInt = (j : Int)) (hj : j < 10) (he : (A 13 j).toInt = (zN (A 13 j) : Int)) (he2 : zN (A 13 j) < 24) : zCi zX11_nominal fr 0 0 [zr (40, 0), zi t] M (fun x M' => M' = M ∧ x = zNom A j) := by
  refine z_enter (L := [some (zr (40, 0)), some (zi t)]) rfl (by decide +kernel) (Nat.le_of_ble_eq_true rfl) ?_
  refine z_al iX11_nominal_0 rfl ?_
  refine z_gf iX11_nominal_1 hR.1 rfl ?_
  refine z_il iX11_nominal_4 rfl ?_
  refine z_iald iX11_nominal_5 (hR.2.1 12 (by decide)) hi hj ?_
  refine z_al iX11_nominal_6 rfl ?_
  refine z_gf iX11_nominal_7 hR.1 rfl ?_
  refine z_al iX11_nominal_10 rfl ?_
  refine z_gf iX11_nominal_11 hR.1 rfl ?_
  refine z_il iX11_nominal_14 rfl ?_
  refine z_iald iX11_nominal_15 (hR.2.1 13 (by decide)) hi hj ?_
  refine z_iald iX11_nominal_16 (hR.2.1 1 (by decide)) he he2 ?_
  refine z_iadd iX11_nominal_17 ?_
  refine z_iret iX11_nominal_18 rfl ?_
  exact ⟨_, rfl, rfl, rfl⟩
theorem zTe {I : zSI} {A : zSA} {L : zSL} (hV : Val I A L) {t : Int32} (h : zBw t 0 (I 1 - 1)) : (A 13 (zN t)).toInt = (zN (A 13 (zN t)) : Int) ∧ (zN (A 13 (zN t)) : Int) < (I 0).toInt ∧ zN (A 13 (zN t)) < 24 := by
  have h1 := (hV.2.2.1 (zN t) (zIdx h hV.1.2.1 (by decide)).2.1).1
  have h2 := hV.1.1
  unfold zRg at h2
  have e0 : zN (A 13 (zN t)) = (A 13 (zN t)).toInt.toNat := rfl
  omega
set_option maxRecDepth 20000 in
set_option maxHeartbeats 4000000 in
theorem pm_toolTold {fr : Nat} {M : zM} {I J : zSI} {A : zSA} {L : zSL} {K : Int64} (hf : 3 ≤ fr) (hR : RepM M I A L J K) (hV : Val I A L) (t : Int32) (w : Int32) : zCi zX11_toolTold fr 0 0 [zr (40, 0), zi t, zi w] M (fun x M' => zEM M x (sp_toolTold I A L t w) M') := by
  refine z_enter (L := [some (zr (40, 0)), some (zi t), some (zi w)]) rfl (by decide +kernel) (Nat.le_of_ble_eq_true rfl) ?_
  refine z_al iX11_toolTold_0 rfl ?_
  refine z_il iX11_toolTold_1 rfl ?_
  refine z_cv1i (fr' := fr - 1) iX11_toolTold_2 zmX11_isTool hR.1 (c11_isTool (by omega) hR _) (by omega) (Nat.le_of_ble_eq_true rfl) (fun x M1 hq => ?_)
  obtain ⟨rfl, rfl⟩ := hq
  refine z_ib_ne iX11_toolTold_5 (fun h1 => ?_) (fun h1 => ?_)
  · refine z_il iX11_toolTold_11 rfl ?_
    refine z_sw iX11_toolTold_12 ⟨fun h2 => ?_, fun h2 => ?_, fun h2 => ?_, fun h2 => ?_, fun h2 => ?_, fun h2 => ?_, fun h2 => ?_, fun h2 => ?_, trivial⟩ (fun h2 => ?_)
    · refine z_al iX11_toolTold_60 rfl ?_
      refine z_gf iX11_toolTold_61 hR.1 rfl ?_
      refine z_il iX11_toolTold_64 rfl ?_
      refine z_iald iX11_toolTold_65 (hR.2.1 12 (by decide)) (zIdx h1 hV.1.2.1 (by decide)).1 (zLt (zIdx h1 hV.1.2.1 (by decide)).2.2) ?_
      refine z_iret iX11_toolTold_66 rfl ?_
      refine ⟨_, rfl, ?_⟩
      unfold sp_toolTold
      repeat' split
      all_goals first | exact zEM.rd hR | (exfalso; simp only [true_and, and_true, false_and, and_false, true_or, or_true, false_or, or_false, not_true_eq_false, not_false_eq_true, zN, zBw, zUnd, zCor, zi_eq, zi_le, zi_lt, Int32.reduceToInt, List.length_cons, List.length_nil] at *; omega)
    · refine z_al iX11_toolTold_67 rfl ?_
      refine z_gf iX11_toolTold_68 hR.1 rfl ?_
      refine z_il iX11_toolTold_71 rfl ?_
      refine z_iald iX11_toolTold_72 (hR.2.1 13 (by decide)) (zIdx h1 hV.1.2.1 (by decide)).1 (zLt (zIdx h1 hV.1.2.1 (by decide)).2.2) ?_
      refine z_iret iX11_toolTold_73 rfl ?_
      refine ⟨_, rfl, ?_⟩
      unfold sp_toolTold
      repeat' split
      all_goals first | exact zEM.rd hR | (exfalso; simp only [true_and, and_true, false_and, and_false, true_or, or_true, false_or, or_false, not_true_eq_false, not_false_eq_true, zN, zBw, zUnd, zCor, zi_eq, zi_le, zi_lt, Int32.reduceToInt, List.length_cons, List.length_nil] at *; omega)
    · refine z_al iX11_toolTold_74 rfl ?_
      refine z_gf iX11_toolTold_75 hR.1 rfl ?_
      refine z_il iX11_toolTold_78 rfl ?_
      refine z_iald iX11_toolTold_79 (hR.2.1 14 (by decide)) (zIdx h1 hV.1.2.1 (by decide)).1 (zLt (zIdx h1 hV.1.2.1 (by decide)).2.2) ?_
      refine z_iret iX11_toolTold_80 rfl ?_
      refine ⟨_, rfl, ?_⟩
      unfold sp_toolTold
      repeat' split
      all_goals first | exact zEM.rd hR | (exfalso; simp only [true_and, and_true, false_and, and_false, true_or, or_true, false_or, or_false, not_true_eq_false, not_false_eq_true, zN, zBw, zUnd, zCor, zi_eq, zi_le, zi_lt, Int32.reduceToInt, List.length_cons, List.length_nil] at *; omega)
    · refine z_al iX11_toolTold_81 rfl ?_
      refine z_gf iX11_toolTold_82 hR.1 rfl ?_
      refine z_il iX11_toolTold_85 rfl ?_
      refine z_iald iX11_toolTold_86 (hR.2.1 15 (by decide)) (zIdx h1 hV.1.2.1 (by decide)).1 (zLt (zIdx h1 hV.1.2.1 (by decide)).2.2) ?_
      refine z_iret iX11_toolTold_87 rfl ?_
      refine ⟨_, rfl, ?_⟩
      unfold sp_toolTold
      repeat' split
      all_goals first | exact zEM.rd hR | (exfalso; simp only [true_and, and_true, false_and, and_false, true_or, or_true, false_or, or_false, not_true_eq_false, not_false_eq_true, zN, zBw, zUnd, zCor, zi_eq, zi_le, zi_lt, Int32.reduceToInt, List.length_cons, List.length_nil] at *; omega)
    · refine z_al iX11_toolTold_88 rfl ?_
      refine z_il iX11_toolTold_89 rfl ?_
      refine z_cv1i (fr' := fr - 1) iX11_toolTold_90 zmX11_nominal hR.1 (c11_nominal hR _ (zIdx h1 hV.1.2.1 (by decide)).1 (zLt (zIdx h1 hV.1.2.1 (by decide)).2.2) (zTe hV h1).1 (zTe hV h1).2.2) (by omega) (Nat.le_of_ble_eq_true rfl) (fun x M1 hq => ?_)
      obtain ⟨rfl, rfl⟩ := hq
      refine z_iret iX11_toolTold_93 rfl ?_
      refine ⟨_, rfl, ?_⟩
      unfold sp_toolTold
      repeat' split
      all_goals first | exact zEM.rd hR | (exfalso; simp only [true_and, and_true, false_and, and_false, true_or, or_true, false_or, or_false, not_true_eq_false, not_false_eq_true, zN, zBw, zUnd, zCor, zi_eq, zi_le, zi_lt, Int32.reduceToInt, List.length_cons, List.length_nil] at *; omega)
    · refine z_al iX11_toolTold_94 rfl ?_
      refine z_gf iX11_toolTold_95 hR.1 rfl ?_
      refine z_il iX11_toolTold_98 rfl ?_
      refine z_iald iX11_toolTold_99 (hR.2.1 16 (by decide)) (zIdx h1 hV.1.2.1 (by decide)).1 (zLt (zIdx h1 hV.1.2.1 (by decide)).2.2) ?_
      refine z_iret iX11_toolTold_100 rfl ?_
      refine ⟨_, rfl, ?_⟩
      unfold sp_toolTold
      repeat' split
      all_goals first | exact zEM.rd hR | (exfalso; simp only [true_and, and_true, false_and, and_false, true_or, or_true, false_or, or_false, not_true_eq_false, not_false_eq_true, zN, zBw, zUnd, zCor, zi_eq, zi_le, zi_lt, Int32.reduceToInt, List.length_cons, List.length_nil] at *; omega)
    · refine z_al iX11_toolTold_101 rfl ?_
      refine z_gf iX11_toolTold_102 hR.1 rfl ?_
      refine z_il iX11_toolTold_105 rfl ?_
      refine z_iald iX11_toolTold_106 (hR.2.1 17 (by decide)) (zIdx h1 hV.1.2.1 (by decide)).1 (zLt (zIdx h1 hV.1.2.1 (by decide)).2.2) ?_
      refine z_iret iX11_toolTold_107 rfl ?_
      refine ⟨_, rfl, ?_⟩
      unfold sp_toolTold
      repeat' split
      all_goals first | exact zEM.rd hR | (exfalso; simp only [true_and, and_true, false_and, and_false, true_or, or_true, false_or, or_false, not_true_eq_false, not_false_eq_true, zN, zBw, zUnd, zCor, zi_eq, zi_le, zi_lt, Int32.reduceToInt, List.length_cons, List.length_nil] at *; omega)
    · refine z_al iX11_toolTold_108 rfl ?_
      refine z_gf iX11_toolTold_109 hR.1 rfl ?_
      refine z_il iX11_toolTold_112 rfl ?_
      refine z_iald iX11_toolTold_113 (hR.2.1 18 (by decide)) (zIdx h1 hV.1.2.1 (by decide)).1 (zLt (zIdx h1 hV.1.2.1 (by decide)).2.2) ?_
      refine z_iret iX11_toolTold_114 rfl ?_
      refine ⟨_, rfl, ?_⟩
      unfold sp_toolTold
      repeat' split
      all_goals first | exact zEM.rd hR | (exfalso; simp only [true_and, and_true, false_and, and_false, true_or, or_true, false_or, or_false, not_true_eq_false, not_false_eq_true, zN, zBw, zUnd, zCor, zi_eq, zi_le, zi_lt, Int32.reduceToInt, List.length_cons, List.length_nil] at *; omega)
    · refine z_co iX11_toolTold_115 ?_
      refine z_iret iX11_toolTold_117 rfl ?_
      refine ⟨_, rfl, ?_⟩
      unfold sp_toolTold
      repeat' split
      all_goals first | exact zEM.rd hR | (exfalso; simp only [true_and, and_true, false_and, and_false, true_or, or_true, false_or, or_false, not_true_eq_false, not_false_eq_true, zN, zBw, zUnd, zCor, zi_eq, zi_le, zi_lt, Int32.reduceToInt, List.length_cons, List.length_nil] at *; omega)
  · refine z_co iX11_toolTold_8 ?_
    refine z_iret iX11_toolTold_10 rfl ?_
    refine ⟨_, rfl, ?_⟩
    unfold sp_toolTold
    repeat' split
    all_goals first | exact zEM.rd hR | (exfalso; simp only [true_and, and_true, false_and, and_false, true_or, or_true, false_or, or_false, not_true_eq_false, not_false_eq_true, zN, zBw, zUnd, zCor, zi_eq, zi_le, zi_lt, Int32.reduceToInt, List.length_cons, List.length_nil] at *; omega)
set_option maxRecDepth 20000 in
set_option maxHeartbeats 4000000 in
theorem pm_measure {fr : Nat} {M : zM} {I J : zSI} {A : zSA} {L : zSL} {K : Int64} (hf : 3 ≤ fr) (hR : RepM M I A L J K) (hV : Val I A L) (t : Int32) : zCi zX11_measure fr 0 0 [zr (40, 0), zi t] M (fun x M' => zEM M x (sp_measure I A L t) M') := by
  refine z_enter (L := [some (zr (40, 0)), some (zi t)]) rfl (by decide +kernel) (Nat.le_of_ble_eq_true rfl) ?_
  refine z_al iX11_measure_0 rfl ?_
  refine z_il iX11_measure_1 rfl ?_
  refine z_cv1i (fr' := fr - 1) iX11_measure_2 zmX11_isTool hR.1 (c11_isTool (by omega) hR _) (by omega) (Nat.le_of_ble_eq_true rfl) (fun x M1 hq => ?_)
  obtain ⟨rfl, rfl⟩ := hq
  refine z_ib_ne iX11_measure_5 (fun h1 => ?_) (fun h1 => ?_)
  · refine z_al iX11_measure_11 rfl ?_
    refine z_gf iX11_measure_12 hR.1 rfl ?_
    refine z_il iX11_measure_15 rfl ?_
    refine z_al iX11_measure_16 rfl ?_
    refine z_al iX11_measure_17 rfl ?_
    refine z_il iX11_measure_18 rfl ?_
    refine z_cv1i (fr' := fr - 1) iX11_measure_19 zmX11_nominal hR.1 (c11_nominal hR _ (zIdx h1 hV.1.2.1 (by decide)).1 (zLt (zIdx h1 hV.1.2.1 (by decide)).2.2) (zTe hV h1).1 (zTe hV h1).2.2) (by omega) (Nat.le_of_ble_eq_true rfl) (fun x M1 hq => ?_)
    obtain ⟨rfl, rfl⟩ := hq
    refine z_cv1i (fr' := fr - 1) iX11_measure_22 zmX11_reads hR.1 (c11_reads hR _) (by omega) (Nat.le_of_ble_eq_true rfl) (fun x M1 hq => ?_)
    obtain ⟨rfl, rfl⟩ := hq
    refine z_al iX11_measure_25 rfl ?_
    refine z_gf iX11_measure_26 hR.1 rfl ?_
    refine z_iadd iX11_measure_29 ?_
    refine z_iast iX11_measure_30 (hR.2.1 16 (by decide)) (by decide) (zIdx h1 hV.1.2.1 (by decide)).1 (zLt (zIdx h1 hV.1.2.1 (by decide)).2.2) ?_
    refine z_al iX11_measure_31 rfl ?_
    refine z_gf iX11_measure_32 ((zupd_k (Nat.ne_of_beq_eq_false rfl)).trans hR.1) rfl ?_
    refine z_il iX11_measure_35 rfl ?_
    refine z_iald iX11_measure_36 zupd_s (zIdx h1 hV.1.2.1 (by decide)).1 (zLt (zIdx h1 hV.1.2.1 (by decide)).2.2) ?_
    refine z_iret iX11_measure_37 rfl ?_
    refine ⟨_, rfl, ?_⟩
    unfold sp_measure
    repeat' split
    all_goals first | exact zEM.rd hR | exact ⟨by simp [zup], zfr zfr_nil (by decide), _, _, _, fun _ _ => rfl, hR.arr 16 _⟩ | (exfalso; simp only [true_and, and_true, false_and, and_false, true_or, or_true, false_or, or_false, not_true_eq_false, not_false_eq_true, zN, zBw, zUnd, zCor, zi_eq, zi_le, zi_lt, Int32.reduceToInt, List.length_cons, List.length_nil] at *; omega)
  · refine z_co iX11_measure_8 ?_
    refine z_iret iX11_measure_10 rfl ?_
    refine ⟨_, rfl, ?_⟩
    unfold sp_measure
    repeat' split
    all_goals first | exact zEM.rd hR | (exfalso; simp only [true_and, and_true, false_and, and_false, true_or, or_true, false_or, or_false, not_true_eq_false, not_false_eq_true, zN, zBw, zUnd, zCor, zi_eq, zi_le, zi_lt, Int32.reduceToInt, List.length_cons, List.length_nil] at *; omega)
set_option maxRecDepth 20000 in
set_option maxHeartbeats 4000000 in
theorem pm_trail {fr : Nat} {M : zM} {I J : zSI} {A : zSA} {L : zSL} {K : Int64} (hf : 3 ≤ fr) (hR : RepM M I A L J K) (hV : Val I A L) (e : Int32) (i : Int32) : zCi zX11_trail fr 0 0 [zr (40, 0), zi e, zi i] M (fun x M' => zEM M x (sp_trail I A L e i) M') := by
  refine z_enter (L := [some (zr (40, 0)), some (zi e), some (zi i)]) rfl (by decide +kernel) (Nat.le_of_ble_eq_true rfl) ?_
  refine z_al iX11_trail_0 rfl ?_
  refine z_il iX11_trail_1 rfl ?_
  refine z_cv1i (fr' := fr - 1) iX11_trail_2 zmX11_isEdge hR.1 (c11_isEdge (by omega) hR _) (by omega) (Nat.le_of_ble_eq_true rfl) (fun x M1 hq => ?_)
  obtain ⟨rfl, rfl⟩ := hq
  refine z_ib_ne iX11_trail_5 (fun h1 => ?_) (fun h1 => ?_)
  · refine z_il iX11_trail_11 rfl ?_
    refine z_co iX11_trail_12 ?_
    refine z_al iX11_trail_13 rfl ?_
    refine z_gf iX11_trail_14 hR.1 rfl ?_
    refine z_il iX11_trail_17 rfl ?_
    refine z_iald iX11_trail_18 (hR.2.1 11 (by decide)) (zIdx h1 hV.1.1 (by decide)).1 (zLt (zIdx h1 hV.1.1 (by decide)).2.2) ?_
    refine z_co iX11_trail_19 ?_
    refine z_isub iX11_trail_20 ?_
    refine z_cs3i (fr' := fr - 1) iX11_trail_21 zmX11_in (c11_in _ _ _) (by omega) (Nat.le_of_ble_eq_true rfl) (fun x M1 hq => ?_)
    obtain ⟨rfl, rfl⟩ := hq
    refine z_ib_eq iX11_trail_24 (fun h2 => ?_) (fun h2 => ?_)
    · refine z_co iX11_trail_41 ?_
      refine z_iret iX11_trail_42 rfl ?_
      refine ⟨_, rfl, ?_⟩
      unfold sp_trail
      repeat' split
      all_goals first | exact zEM.rd hR | (exfalso; simp only [true_and, and_true, false_and, and_false, true_or, or_true, false_or, or_false, not_true_eq_false, not_false_eq_true, zN, zBw, zUnd, zCor, zi_eq, zi_le, zi_lt, Int32.reduceToInt, List.length_cons, List.length_nil] at *; omega)
    · refine z_al iX11_trail_27 rfl ?_
      refine z_gf iX11_trail_28 hR.1 rfl ?_
      refine z_co iX11_trail_31 ?_
      refine z_il iX11_trail_33 rfl ?_
      refine z_imul iX11_trail_34 ?_
      refine z_il iX11_trail_35 rfl ?_
      refine z_iadd iX11_trail_36 ?_
      refine z_iald iX11_trail_37 (hR.2.1 10 (by decide)) (zLin (C := 8) rfl (zIdx h1 hV.1.1 (by decide)).1 (zIdx h2 (hV.2.1 _ (zIdx h1 hV.1.1 (by decide)).2.1).2.2.1 (by decide)).1 (by have g1 := (zIdx h1 hV.1.1 (by decide)).2.2; have g2 := (zIdx h2 (hV.2.1 _ (zIdx h1 hV.1.1 (by decide)).2.1).2.2.1 (by decide)).2.2; omega)) (show _ < 192 by have g1 := (zIdx h1 hV.1.1 (by decide)).2.2; have g2 := (zIdx h2 (hV.2.1 _ (zIdx h1 hV.1.1 (by decide)).2.1).2.2.1 (by decide)).2.2; omega) ?_
      refine z_goto iX11_trail_38 ?_
      refine z_iret iX11_trail_42 rfl ?_
      refine ⟨_, rfl, ?_⟩
      unfold sp_trail
      repeat' split
      all_goals first | exact zEM.rd hR | (exfalso; simp only [true_and, and_true, false_and, and_false, true_or, or_true, false_or, or_false, not_true_eq_false, not_false_eq_true, zN, zBw, zUnd, zCor, zi_eq, zi_le, zi_lt, Int32.reduceToInt, List.length_cons, List.length_nil] at *; omega)
  · refine z_co iX11_trail_8 ?_
    refine z_iret iX11_trail_10 rfl ?_
    refine ⟨_, rfl, ?_⟩
    unfold sp_trail
    repeat' split
    all_goals first | exact zEM.rd hR | (exfalso; simp only [true_and, and_true, false_and, and_false, true_or, or_true, false_or, or_false, not_true_eq_false, not_false_eq_true, zN, zBw, zUnd, zCor, zi_eq, zi_le, zi_lt, Int32.reduceToInt, List.length_cons, List.length_nil] at *; omega)
set_option maxRecDepth 20000 in
set_option maxHeartbeats 4000000 in
theorem c0_trailAt {fr : Nat} {M : zM} {a b : zAd} {y0 y1 y2 y4 y5 y6 y7 y8 y9 y10 y11 : Int32} {y12 : Int64} {f : Nat → Int32} (hy : zRg y4 0 8) (hthis : M a = some (.inr (0, [zi y0, zi y1, zi y2, zr b, zi y4, zi y5, zi y6, zi y7, zi y8, zi y9, zi y10, zi y11, zl y12]))) (hb : M b = some (.inl (0, 8, .inl f))) (i : Int32) : zCi zX0_trailAt fr 0 0 [zr a, zi i] M (fun x M' => M' = M ∧ x = if zBw i 0 (y4 - 1) then f (zN i) else -1) := by
  refine z_enter (L := [some (zr a), some (zi i)]) rfl (by decide +kernel) (Nat.le_of_ble_eq_true rfl) ?_
  have e1 : (y4 - 1).toInt = y4.toInt - 1 := by
    obtain ⟨g1, g2⟩ := hy
    rw [zsub (by simp only [Int32.reduceToInt]; omega) (by simp only [Int32.reduceToInt]; omega)]; rfl
  obtain ⟨g1, g2⟩ := hy
  refine z_il iX0_trailAt_0 rfl ?_
  refine z_if_lt iX0_trailAt_1 (fun h1 => ?_) (fun h1 => ?_)
  · refine z_co iX0_trailAt_27 ?_
    refine z_iret iX0_trailAt_28 rfl ?_
    refine ⟨_, rfl, rfl, ?_⟩
    split
    all_goals first | rfl | (exfalso; simp only [true_and, and_true, false_and, and_false, true_or, or_true, false_or, or_false, not_true_eq_false, not_false_eq_true, zN, zBw, zUnd, zCor, zi_eq, zi_le, zi_lt, Int32.reduceToInt, List.length_cons, List.length_nil] at *; omega)
  · refine z_il iX0_trailAt_4 rfl ?_
    refine z_al iX0_trailAt_5 rfl ?_
    refine z_gf iX0_trailAt_6 hthis rfl ?_
    refine z_icmp_ge iX0_trailAt_9 (fun h2 => ?_) (fun h2 => ?_)
    · refine z_co iX0_trailAt_27 ?_
      refine z_iret iX0_trailAt_28 rfl ?_
      refine ⟨_, rfl, rfl, ?_⟩
      split
      all_goals first | rfl | (exfalso; simp only [true_and, and_true, false_and, and_false, true_or, or_true, false_or, or_false, not_true_eq_false, not_false_eq_true, zN, zBw, zUnd, zCor, zi_eq, zi_le, zi_lt, Int32.reduceToInt, List.length_cons, List.length_nil] at *; omega)
    · refine z_il iX0_trailAt_12 rfl ?_
      refine z_co iX0_trailAt_13 ?_
      refine z_icmp_ge iX0_trailAt_15 (fun h3 => ?_) (fun h3 => ?_)
      · refine z_co iX0_trailAt_27 ?_
        refine z_iret iX0_trailAt_28 rfl ?_
        refine ⟨_, rfl, rfl, ?_⟩
        split
        all_goals first | rfl | (exfalso; simp only [true_and, and_true, false_and, and_false, true_or, or_true, false_or, or_false, not_true_eq_false, not_false_eq_true, zN, zBw, zUnd, zCor, zi_eq, zi_le, zi_lt, Int32.reduceToInt, List.length_cons, List.length_nil] at *; omega)
      · refine z_al iX0_trailAt_18 rfl ?_
        refine z_gf iX0_trailAt_19 hthis rfl ?_
        refine z_il iX0_trailAt_22 rfl ?_
        refine z_iald iX0_trailAt_23 hb (show i.toInt = (zN i : Int) by simp only [zi_lt, Int32.reduceToInt] at *; have e0 : zN i = i.toInt.toNat := rfl; omega) (show zN i < 8 by simp only [zi_le, Int32.reduceToInt] at *; have e0 : zN i = i.toInt.toNat := rfl; omega) ?_
        refine z_goto iX0_trailAt_24 ?_
        refine z_iret iX0_trailAt_28 rfl ?_
        refine ⟨_, rfl, rfl, ?_⟩
        split
        all_goals first | rfl | (exfalso; simp only [true_and, and_true, false_and, and_false, true_or, or_true, false_or, or_false, not_true_eq_false, not_false_eq_true, zN, zBw, zUnd, zCor, zi_eq, zi_le, zi_lt, Int32.reduceToInt, List.length_cons, List.length_nil] at *; omega)
set_option maxRecDepth 20000 in
set_option maxHeartbeats 4000000 in
theorem px_trail {TR : zTR} {JR : zJR} {fr : Nat} {M : zM} {I : zSI} {A : zSA} {L : zSL} (hf : 4 ≤ fr) (hX : RepX TR JR M I A L) (hV : Val I A L) (e : Int32) (i : Int32) : zCi zX10_trail fr 0 0 [zr (2, 0), zi e, zi i] M (fun x M' => zEX TR JR M x (sp_trail I A L e i) M') := by
  refine z_enter (L := [some (zr (2, 0)), some (zi e), some (zi i)]) rfl (by decide +kernel) (Nat.le_of_ble_eq_true rfl) ?_
  refine z_al iX10_trail_0 rfl ?_
  refine z_il iX10_trail_1 rfl ?_
  refine z_cv1a (fr' := fr - 1) iX10_trail_2 zmX10_edgeOf hX.1.1 (c10_edgeOf (by omega) hX hV _) (by omega) (Nat.le_of_ble_eq_true rfl) (fun x M1 hq => ?_)
  obtain ⟨rfl, rfl⟩ := hq
  refine z_as iX10_trail_5 ?_
  refine z_alo iX10_trail_6 rfl ?_
  refine z_ifnonnull iX10_trail_7 (fun x1 h1 => ?_) (fun h1 => ?_)
  · rw [h1]
    obtain ⟨qh1, rfl⟩ := xo_s h1
    have hedge := (hX.2.1.1 _ (zIdx qh1 hV.1.1 (by decide)).2.1).1
    obtain ⟨ft, htr, htf⟩ := (hX.2.1.1 _ (zIdx qh1 hV.1.1 (by decide)).2.1).2
    refine z_al iX10_trail_13 rfl ?_
    refine z_il iX10_trail_14 rfl ?_
    refine z_cv1i (fr' := fr - 1) iX10_trail_15 zmX0_trailAt hedge (c0_trailAt (hV.2.1 _ (zIdx qh1 hV.1.1 (by decide)).2.1).2.2.1 hedge htr i) (by omega) (Nat.le_of_ble_eq_true rfl) (fun x M1 hq => ?_)
    obtain ⟨rfl, rfl⟩ := hq
    refine z_iret iX10_trail_18 rfl ?_
    refine ⟨_, rfl, ?_⟩
    unfold sp_trail
    rw [if_neg (fun g => g qh1)]
    split
    · next g => rw [htf _ (zIdx g (hV.2.1 _ (zIdx qh1 hV.1.1 (by decide)).2.1).2.2.1 (by decide)).2.1]; exact zEX.rd hX
    · exact zEX.rd hX
  · refine z_co iX10_trail_10 ?_
    refine z_iret iX10_trail_12 rfl ?_
    try (have hn := xo_n (by assumption : xo _ _ _ = none))
    refine ⟨_, rfl, ?_⟩
    unfold sp_trail
    repeat' split
    all_goals first | exact zEX.rd hX | (exfalso; simp only [true_and, and_true, false_and, and_false, true_or, or_true, false_or, or_false, not_true_eq_false, not_false_eq_true, zN, zBw, zUnd, zCor, zi_eq, zi_le, zi_lt, Int32.reduceToInt, List.length_cons, List.length_nil] at *; omega)
theorem RepX.tool {TR : zTR} {JR : zJR} {M : zM} {I : zSI} {A A' : zSA} {L : zSL} (h : RepX TR JR M I A L) {t : Nat} (ht : (t : Int) < (I 1).toInt) {fs : List zVal} (hfs : fs = xTool A' t)
    (hA : ∀ k, k < 30 → (k < 12 ∨ 18 < k) → A' k = A k) (hj : ∀ k, 12 ≤ k → k ≤ 18 → ∀ j, j ≠ t → A' k j = A k j) : RepX TR JR (zupd M (30, t) (.inr (9, fs))) I A' L := by
  subst hfs
  obtain ⟨h1, h2, h3, h4, h5, h6, h7, h8, h9⟩ := h
  have q := fun k h1 h2 => (hA k h1 h2).symm
  have q0 := q 0 (by decide) (by decide); have q1 := q 1 (by decide) (by decide); have q2 := q 2 (by decide) (by decide); have q3 := q 3 (by decide) (by decide); have q4 := q 4 (by decide) (by decide); have q5 := q 5 (by decide) (by decide); have q6 := q 6 (by decide) (by decide); have q7 := q 7 (by decide) (by decide); have q8 := q 8 (by decide) (by decide); have q9 := q 9 (by decide) (by decide); have q10 := q 10 (by decide) (by decide); have q11 := q 11 (by decide) (by decide); have q19 := q 19 (by decide) (by decide); have q20 := q 20 (by decide) (by decide); have q21 := q 21 (by decide) (by decide); have q22 := q 22 (by decide) (by decide); have q23 := q 23 (by decide) (by decide); have q24 := q 24 (by decide) (by decide); have q25 := q 25 (by decide) (by decide); have q26 := q 26 (by decide) (by decide); have q27 := q 27 (by decide) (by decide); have q28 := q 28 (by decide) (by decide); have q29 := q 29 (by decide) (by decide)
  refine ⟨h1.fr fun k g1 g2 => zupd_k (show k ≠ 30 by omega), ?_, ⟨fun e' he' => ?_, fun e' he' => ?_⟩, ?_, ?_, ?_, ?_, h8.fr (zupd_k (by decide : (11 : Nat) ≠ 30)) (zupd_k (by decide : (12 : Nat) ≠ 30)) (zupd_k (by decide : (22 : Nat) ≠ 30)) (zupd_k (by decide : (13 : Nat) ≠ 30)), ?_⟩
  · simp only [xEd, xEdge, q0, q1, q2, q3, q4, q5, q6, q7, q8, q9, q10, q11] at h2
    exact xEd.fr (A := A') h2 (fun e => zupd_k (by decide : (28 : Nat) ≠ 30)) (fun e => zupd_k (by decide : (29 : Nat) ≠ 30))
  · have g1 := h3.1 e' he'
    by_cases z : e' = t
    · subst z; exact zupd_s
    · rw [zupd_i z, g1]
      unfold xTool
      rw [hj 12 (by decide) (by decide) _ z, hj 13 (by decide) (by decide) _ z, hj 14 (by decide) (by decide) _ z, hj 15 (by decide) (by decide) _ z, hj 16 (by decide) (by decide) _ z, hj 17 (by decide) (by decide) _ z, hj 18 (by decide) (by decide) _ z]
  · exact (zupd_i (show e' ≠ t by omega)).trans (h3.2 e' he')
  · simp only [xMa, xMach, q22, q23, q24] at h4
    exact xMa.fr (A := A') h4 (fun e => zupd_k (by decide : (31 : Nat) ≠ 30)) (fun e => zupd_k (by decide : (32 : Nat) ≠ 30))
  · simp only [xSh, q26, q27, q28, q29] at h5
    exact xSh.fr (A := A') h5 (fun e => zupd_k (by decide : (26 : Nat) ≠ 30)) (fun e => zupd_k (by decide : (27 : Nat) ≠ 30))
  · simp only [xTx, q19, q20] at h6
    exact xTx.fr (A := A') h6 (fun e => zupd_k (by decide : (23 : Nat) ≠ 30)) (fun e => zupd_k (by decide : (24 : Nat) ≠ 30)) (fun e => zupd_k (by decide : (25 : Nat) ≠ 30))
  · simp only [xTa, q21] at h7
    exact xTa.fr (A := A') h7 (zupd_k (by decide : (10 : Nat) ≠ 30)) (zupd_k (by decide : (19 : Nat) ≠ 30)) (zupd_k (by decide : (20 : Nat) ≠ 30)) (zupd_k (by decide : (21 : Nat) ≠ 30))
  · simp only [xJo, q25] at h9
    exact xJo.fr (A := A') h9 (zupd_k (by decide : (9 : Nat) ≠ 30)) (zupd_k (by decide : (14 : Nat) ≠ 30)) (zupd_k (by decide : (15 : Nat) ≠ 30)) (zupd_k (by decide : (16 : Nat) ≠ 30)) (zupd_k (by decide : (17 : Nat) ≠ 30)) (fun e => zupd_k (by decide : (18 : Nat) ≠ 30))
set_option maxRecDepth 20000 in
set_option maxHeartbeats 4000000 in
theorem px_toolTold {TR : zTR} {JR : zJR} {fr : Nat} {M : zM} {I : zSI} {A : zSA} {L : zSL} (hf : 4 ≤ fr) (hX : RepX TR JR M I A L) (hV : Val I A L) (t : Int32) (w : Int32) : zCi zX10_toolTold fr 0 0 [zr (2, 0), zi t, zi w] M (fun x M' => zEX TR JR M x (sp_toolTold I A L t w) M') := by
  refine z_enter (L := [some (zr (2, 0)), some (zi t), some (zi w)]) rfl (by decide +kernel) (Nat.le_of_ble_eq_true rfl) ?_
  refine z_al iX10_toolTold_0 rfl ?_
  refine z_il iX10_toolTold_1 rfl ?_
  refine z_cv1a (fr' := fr - 1) iX10_toolTold_2 zmX10_toolOf hX.1.1 (c10_toolOf (by omega) hX hV _) (by omega) (Nat.le_of_ble_eq_true rfl) (fun x M1 hq => ?_)
  obtain ⟨rfl, rfl⟩ := hq
  refine z_as iX10_toolTold_5 ?_
  refine z_alo iX10_toolTold_6 rfl ?_
  refine z_ifnonnull iX10_toolTold_7 (fun x1 h1 => ?_) (fun h1 => ?_)
  · rw [h1]
    obtain ⟨qh1, rfl⟩ := xo_s h1
    have htool := hX.2.2.1.1 _ (zIdx qh1 hV.1.2.1 (by decide)).2.1
    refine z_il iX10_toolTold_13 rfl ?_
    refine z_sw iX10_toolTold_14 ⟨fun h2 => ?_, fun h2 => ?_, fun h2 => ?_, fun h2 => ?_, fun h2 => ?_, fun h2 => ?_, fun h2 => ?_, fun h2 => ?_, trivial⟩ (fun h2 => ?_)
    · refine z_al iX10_toolTold_60 rfl ?_
      refine z_gf iX10_toolTold_61 htool rfl ?_
      refine z_iret iX10_toolTold_64 rfl ?_
      try (have hn := xo_n (by assumption : xo _ _ _ = none))
      refine ⟨_, rfl, ?_⟩
      unfold sp_toolTold
      repeat' split
      all_goals first | exact zEX.rd hX | (exfalso; simp only [true_and, and_true, false_and, and_false, true_or, or_true, false_or, or_false, not_true_eq_false, not_false_eq_true, zN, zBw, zUnd, zCor, zi_eq, zi_le, zi_lt, Int32.reduceToInt, List.length_cons, List.length_nil] at *; omega)
    · refine z_al iX10_toolTold_65 rfl ?_
      refine z_gf iX10_toolTold_66 htool rfl ?_
      refine z_iret iX10_toolTold_69 rfl ?_
      try (have hn := xo_n (by assumption : xo _ _ _ = none))
      refine ⟨_, rfl, ?_⟩
      unfold sp_toolTold
      repeat' split
      all_goals first | exact zEX.rd hX | (exfalso; simp only [true_and, and_true, false_and, and_false, true_or, or_true, false_or, or_false, not_true_eq_false, not_false_eq_true, zN, zBw, zUnd, zCor, zi_eq, zi_le, zi_lt, Int32.reduceToInt, List.length_cons, List.length_nil] at *; omega)
    · refine z_al iX10_toolTold_70 rfl ?_
      refine z_gf iX10_toolTold_71 htool rfl ?_
      refine z_iret iX10_toolTold_74 rfl ?_
      try (have hn := xo_n (by assumption : xo _ _ _ = none))
      refine ⟨_, rfl, ?_⟩
      unfold sp_toolTold
      repeat' split
      all_goals first | exact zEX.rd hX | (exfalso; simp only [true_and, and_true, false_and, and_false, true_or, or_true, false_or, or_false, not_true_eq_false, not_false_eq_true, zN, zBw, zUnd, zCor, zi_eq, zi_le, zi_lt, Int32.reduceToInt, List.length_cons, List.length_nil] at *; omega)
    · refine z_al iX10_toolTold_75 rfl ?_
      refine z_gf iX10_toolTold_76 htool rfl ?_
      refine z_iret iX10_toolTold_79 rfl ?_
      try (have hn := xo_n (by assumption : xo _ _ _ = none))
      refine ⟨_, rfl, ?_⟩
      unfold sp_toolTold
      repeat' split
      all_goals first | exact zEX.rd hX | (exfalso; simp only [true_and, and_true, false_and, and_false, true_or, or_true, false_or, or_false, not_true_eq_false, not_false_eq_true, zN, zBw, zUnd, zCor, zi_eq, zi_le, zi_lt, Int32.reduceToInt, List.length_cons, List.length_nil] at *; omega)
    · refine z_al iX10_toolTold_80 rfl ?_
      refine z_cv0i (fr' := fr - 1) iX10_toolTold_81 zmX9_nominal htool (c9_nominal htool (hX.2.1.1 _ (zTe hV qh1).2.1).1) (by omega) (Nat.le_of_ble_eq_true rfl) (fun x M1 hq => ?_)
      obtain ⟨rfl, rfl⟩ := hq
      refine z_iret iX10_toolTold_84 rfl ?_
      try (have hn := xo_n (by assumption : xo _ _ _ = none))
      refine ⟨_, rfl, ?_⟩
      unfold sp_toolTold
      repeat' split
      all_goals first | exact zEX.rd hX | (exfalso; simp only [true_and, and_true, false_and, and_false, true_or, or_true, false_or, or_false, not_true_eq_false, not_false_eq_true, zN, zBw, zUnd, zCor, zi_eq, zi_le, zi_lt, Int32.reduceToInt, List.length_cons, List.length_nil] at *; omega)
    · refine z_al iX10_toolTold_85 rfl ?_
      refine z_gf iX10_toolTold_86 htool rfl ?_
      refine z_iret iX10_toolTold_89 rfl ?_
      try (have hn := xo_n (by assumption : xo _ _ _ = none))
      refine ⟨_, rfl, ?_⟩
      unfold sp_toolTold
      repeat' split
      all_goals first | exact zEX.rd hX | (exfalso; simp only [true_and, and_true, false_and, and_false, true_or, or_true, false_or, or_false, not_true_eq_false, not_false_eq_true, zN, zBw, zUnd, zCor, zi_eq, zi_le, zi_lt, Int32.reduceToInt, List.length_cons, List.length_nil] at *; omega)
    · refine z_al iX10_toolTold_90 rfl ?_
      refine z_gf iX10_toolTold_91 htool rfl ?_
      refine z_iret iX10_toolTold_94 rfl ?_
      try (have hn := xo_n (by assumption : xo _ _ _ = none))
      refine ⟨_, rfl, ?_⟩
      unfold sp_toolTold
      repeat' split
      all_goals first | exact zEX.rd hX | (exfalso; simp only [true_and, and_true, false_and, and_false, true_or, or_true, false_or, or_false, not_true_eq_false, not_false_eq_true, zN, zBw, zUnd, zCor, zi_eq, zi_le, zi_lt, Int32.reduceToInt, List.length_cons, List.length_nil] at *; omega)
    · refine z_al iX10_toolTold_95 rfl ?_
      refine z_gf iX10_toolTold_96 htool rfl ?_
      refine z_iret iX10_toolTold_99 rfl ?_
      try (have hn := xo_n (by assumption : xo _ _ _ = none))
      refine ⟨_, rfl, ?_⟩
      unfold sp_toolTold
      repeat' split
      all_goals first | exact zEX.rd hX | (exfalso; simp only [true_and, and_true, false_and, and_false, true_or, or_true, false_or, or_false, not_true_eq_false, not_false_eq_true, zN, zBw, zUnd, zCor, zi_eq, zi_le, zi_lt, Int32.reduceToInt, List.length_cons, List.length_nil] at *; omega)
    · refine z_co iX10_toolTold_100 ?_
      refine z_iret iX10_toolTold_102 rfl ?_
      try (have hn := xo_n (by assumption : xo _ _ _ = none))
      refine ⟨_, rfl, ?_⟩
      unfold sp_toolTold
      repeat' split
      all_goals first | exact zEX.rd hX | (exfalso; simp only [true_and, and_true, false_and, and_false, true_or, or_true, false_or, or_false, not_true_eq_false, not_false_eq_true, zN, zBw, zUnd, zCor, zi_eq, zi_le, zi_lt, Int32.reduceToInt, List.length_cons, List.length_nil] at *; omega)
  · refine z_co iX10_toolTold_10 ?_
    refine z_iret iX10_toolTold_12 rfl ?_
    try (have hn := xo_n (by assumption : xo _ _ _ = none))
    refine ⟨_, rfl, ?_⟩
    unfold sp_toolTold
    repeat' split
    all_goals first | exact zEX.rd hX | (exfalso; simp only [true_and, and_true, false_and, and_false, true_or, or_true, false_or, or_false, not_true_eq_false, not_false_eq_true, zN, zBw, zUnd, zCor, zi_eq, zi_le, zi_lt, Int32.reduceToInt, List.length_cons, List.length_nil] at *; omega)
set_option maxRecDepth 20000 in
set_option maxHeartbeats 4000000 in
theorem px_measure {TR : zTR} {JR : zJR} {fr : Nat} {M : zM} {I : zSI} {A : zSA} {L : zSL} (hf : 4 ≤ fr) (hX : RepX TR JR M I A L) (hV : Val I A L) (t : Int32) : zCi zX10_measure fr 0 0 [zr (2, 0), zi t] M (fun x M' => zEX TR JR M x (sp_measure I A L t) M') := by
  refine z_enter (L := [some (zr (2, 0)), some (zi t)]) rfl (by decide +kernel) (Nat.le_of_ble_eq_true rfl) ?_
  refine z_al iX10_measure_0 rfl ?_
  refine z_il iX10_measure_1 rfl ?_
  refine z_cv1a (fr' := fr - 1) iX10_measure_2 zmX10_toolOf hX.1.1 (c10_toolOf (by omega) hX hV _) (by omega) (Nat.le_of_ble_eq_true rfl) (fun x M1 hq => ?_)
  obtain ⟨rfl, rfl⟩ := hq
  refine z_as iX10_measure_5 ?_
  refine z_alo iX10_measure_6 rfl ?_
  refine z_ifnonnull iX10_measure_7 (fun x1 h1 => ?_) (fun h1 => ?_)
  · rw [h1]
    obtain ⟨qh1, rfl⟩ := xo_s h1
    have htool := hX.2.2.1.1 _ (zIdx qh1 hV.1.2.1 (by decide)).2.1
    refine z_al iX10_measure_13 rfl ?_
    refine z_al iX10_measure_14 rfl ?_
    refine z_gf iX10_measure_15 hX.1.1 rfl ?_
    refine z_al iX10_measure_18 rfl ?_
    refine z_cv0i (fr' := fr - 1) iX10_measure_19 zmX9_nominal htool (c9_nominal htool (hX.2.1.1 _ (zTe hV qh1).2.1).1) (by omega) (Nat.le_of_ble_eq_true rfl) (fun x M1 hq => ?_)
    obtain ⟨rfl, rfl⟩ := hq
    refine z_cv1i (fr' := fr - 1) iX10_measure_22 zmX4_reads hX.1.2.2.2.2.2.2 (c4_reads (f := I 4) hX.1.2.2.2.2.2.2 _) (by omega) (Nat.le_of_ble_eq_true rfl) (fun x M1 hq => ?_)
    obtain ⟨rfl, rfl⟩ := hq
    refine z_al iX10_measure_25 rfl ?_
    refine z_gf iX10_measure_26 hX.1.1 rfl ?_
    refine z_gf iX10_measure_29 hX.1.2.2.2.2.2.2 rfl ?_
    refine z_iadd iX10_measure_32 ?_
    refine z_pf iX10_measure_33 htool (by decide : 2 ≤ 30) (Nat.le_of_ble_eq_true rfl) trivial ?_
    refine z_al iX10_measure_36 rfl ?_
    refine z_gf iX10_measure_37 zupd_s rfl ?_
    refine z_iret iX10_measure_40 rfl ?_
    try (have hn := xo_n (by assumption : xo _ _ _ = none))
    refine ⟨_, rfl, ?_⟩
    unfold sp_measure
    repeat' split
    all_goals first | exact zEX.rd hX | exact ⟨rfl, zfx zfx_nil ⟨(by decide : 2 ≤ 30), (by decide : 30 < 40)⟩, hX.tool (A' := zA2 A 16 (zN t) (zReads (I 2) (I 3) (zNom A (zN t)) + I 4)) (zIdx qh1 hV.1.2.1 (by decide)).2.1 (by simp [xTool, zA2, zup, zNom]) (fun k g1 g2 => zA2_row (by omega)) (fun k g1 g3 j g2 => zA2_col g2)⟩ | (exfalso; simp only [true_and, and_true, false_and, and_false, true_or, or_true, false_or, or_false, not_true_eq_false, not_false_eq_true, zN, zBw, zUnd, zCor, zi_eq, zi_le, zi_lt, Int32.reduceToInt, List.length_cons, List.length_nil] at *; omega)
  · refine z_co iX10_measure_10 ?_
    refine z_iret iX10_measure_12 rfl ?_
    try (have hn := xo_n (by assumption : xo _ _ _ = none))
    refine ⟨_, rfl, ?_⟩
    unfold sp_measure
    repeat' split
    all_goals first | exact zEX.rd hX | (exfalso; simp only [true_and, and_true, false_and, and_false, true_or, or_true, false_or, or_false, not_true_eq_false, not_false_eq_true, zN, zBw, zUnd, zCor, zi_eq, zi_le, zi_lt, Int32.reduceToInt, List.length_cons, List.length_nil] at *; omega)
