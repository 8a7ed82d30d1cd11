theorem zadd {a b : Int32} (h1 : -2147483648 ≤ a.toInt + b.toInt) (h2 : a.toInt + b.toInt < 2147483648) : (a + b).toInt = a.toInt + b.toInt := by
  rw [Int32.toInt_add]
  exact Int.bmod_eq_of_le (by omega) (by omega)
theorem zsub {a b : Int32} (h1 : -2147483648 ≤ a.toInt - b.toInt) (h2 : a.toInt - b.toInt < 2147483648) : (a - b).toInt = a.toInt - b.toInt := by
  rw [Int32.toInt_sub]
  exact Int.bmod_eq_of_le (by omega) (by omega)
theorem zmul {a b : Int32} (h1 : -2147483648 ≤ a.toInt * b.toInt) (h2 : a.toInt * b.toInt < 2147483648) : (a * b).toInt = a.toInt * b.toInt := by
  rw [Int32.toInt_mul]
  exact Int.bmod_eq_of_le (by omega) (by omega)
theorem zIdx {x n : Int32} {N : Int} (h : zBw x 0 (n - 1)) (hn : zRg n 0 N) (hN : N ≤ 1000) : x.toInt = (x.toInt.toNat : Int) ∧ (x.toInt.toNat : Int) < n.toInt ∧ (x.toInt.toNat : Int) < N := by
  obtain ⟨h1, h2⟩ := h
  obtain ⟨h3, h4⟩ := hn
  rw [zi_le] at h1 h2
  rw [zsub (by simp only [Int32.reduceToInt]; omega) (by simp only [Int32.reduceToInt]; omega)] at h2
  simp only [Int32.reduceToInt] at h1 h2
  omega
theorem zLt {x : Int32} {N : Nat} (h : (x.toInt.toNat : Int) < N) : x.toInt.toNat < N := by omega
/-- A with v at place e of row k -/
def zA2 (A : zSA) (k e : Nat) (v : Int32) : zSA := zup A k (zup (A k) e v)
abbrev zN (x : Int32) : Nat := x.toInt.toNat
def sp_setter (I : zSI) (A : zSA) (L : zSL) (o d : Int32) : zRes := if zBw o (-50) 50 ∧ zBw d (-20) 20 then (1, zup (zup I 2 o) 3 d, A, L) else (-2, I, A, L)
def sp_calibrate (I : zSI) (A : zSA) (L : zSL) (m : Int32) : zRes := if zBw m 100 400 then (m - zReads (I 2) (I 3) m, zup I 4 (m - zReads (I 2) (I 3) m), A, L) else (-2, I, A, L)
def sp_wear (I : zSI) (A : zSA) (L : zSL) (e s h : Int32) : zRes := if zBw e 0 (I 0 - 1) ∧ zBw s 1 20 ∧ zBw h 1 20 then (zWear (A 0 (zN e)) s h, I, A, L) else (-2, I, A, L)
def sp_edgeTold (I : zSI) (A : zSA) (L : zSL) (e w : Int32) : zRes := (if ¬ zBw e 0 (I 0 - 1) then -2 else if w = 0 then A 0 (zN e) else if w = 1 then A 1 (zN e) else if w = 2 then A 2 (zN e) else if w = 3 then A 3 (zN e) else if w = 4 then A 4 (zN e) else if w = 5 then A 5 (zN e) else if w = 6 then A 6 (zN e) else if w = 7 then A 9 (zN e) else -2, I, A, L)
def sp_turn (I : zSI) (A : zSA) (L : zSL) (e : Int32) : zRes := if ¬ zBw e 0 (I 0 - 1) then (-2, I, A, L) else if ¬ zCor (A 0 (zN e)) then (-13, I, A, L) else if A 5 (zN e) = 2 ∨ A 3 (zN e) = 0 then (-3, I, A, L) else (A 3 (zN e) - 1, I, zA2 (zA2 (zA2 A 3 (zN e) (A 3 (zN e) - 1)) 6 (zN e) 0) 5 (zN e) 0, zup L (zN e) 0)
def sp_grind (I : zSI) (A : zSA) (L : zSL) (e n : Int32) : zRes := if ¬ zBw e 0 (I 0 - 1) ∨ ¬ zBw n 1 50 then (-2, I, A, L) else if zCor (A 0 (zN e)) then (-13, I, A, L) else if A 5 (zN e) = 2 ∨ A 1 (zN e) - n < A 2 (zN e) then (-3, I, A, L) else (A 1 (zN e) - n, I, zA2 (zA2 (zA2 A 1 (zN e) (A 1 (zN e) - n)) 6 (zN e) 0) 5 (zN e) 0, zup L (zN e) 0)
theorem zM_rd {M : zM} {I J : zSI} {A : zSA} {L : zSL} {K : Int64} (h : RepM M I A L J K) {r : zRes} {x : Int32} (hr : r = (x, I, A, L)) : zEM M x r M := by
  subst hr
  exact zEM.rd h
set_option maxRecDepth 20000 in
set_option maxHeartbeats 4000000 in
theorem c11_isEdge {fr : Nat} {M : zM} {I J : zSI} {A : zSA} {L : zSL} {K : Int64} (hf : 1 ≤ fr) (hR : RepM M I A L J K) (e : Int32) : zCi zX11_isEdge fr 0 0 [zr (40, 0), zi e] M (fun x M' => M' = M ∧ x = zbo (zBw e 0 (I 0 - 1))) := by
  refine z_enter (L := [some (zr (40, 0)), some (zi e)]) rfl (by decide +kernel) (Nat.le_of_ble_eq_true rfl) ?_
  refine z_il iX11_isEdge_0 rfl ?_
  refine z_co iX11_isEdge_1 ?_
  refine z_al iX11_isEdge_2 rfl ?_
  refine z_gf iX11_isEdge_3 hR.1 rfl ?_
  refine z_co iX11_isEdge_6 ?_
  refine z_isub iX11_isEdge_7 ?_
  refine z_cs3i (fr' := fr - 1) iX11_isEdge_8 zmX11_in (c11_in _ _ _) (by omega) (Nat.le_of_ble_eq_true rfl) (fun x M1 hq => ?_)
  obtain ⟨rfl, rfl⟩ := hq
  refine z_bret iX11_isEdge_11 rfl ?_
  exact ⟨_, rfl, rfl, rfl⟩
set_option maxRecDepth 20000 in
set_option maxHeartbeats 4000000 in
theorem c11_reads {fr : Nat} {M : zM} {I J : zSI} {A : zSA} {L : zSL} {K : Int64} (hR : RepM M I A L J K) (n : Int32) : zCi zX11_reads fr 0 0 [zr (40, 0), zi n] M (fun x M' => M' = M ∧ x = zReads (I 2) (I 3) n) := by
  refine z_enter (L := [some (zr (40, 0)), some (zi n)]) rfl (by decide +kernel) (Nat.le_of_ble_eq_true rfl) ?_
  refine z_il iX11_reads_0 rfl ?_
  refine z_al iX11_reads_1 rfl ?_
  refine z_gf iX11_reads_2 hR.1 rfl ?_
  refine z_isub iX11_reads_5 ?_
  refine z_co iX11_reads_6 ?_
  refine z_al iX11_reads_9 rfl ?_
  refine z_gf iX11_reads_10 hR.1 rfl ?_
  refine z_iadd iX11_reads_13 ?_
  refine z_imul iX11_reads_14 ?_
  refine z_co iX11_reads_15 ?_
  refine z_idiv iX11_reads_18 (by decide) ?_
  refine z_iret iX11_reads_19 rfl ?_
  exact ⟨_, rfl, rfl, rfl⟩
set_option maxRecDepth 20000 in
set_option maxHeartbeats 4000000 in
theorem pm_setter {fr : Nat} {M : zM} {I J : zSI} {A : zSA} {L : zSL} {K : Int64} (hf : 3 ≤ fr) (hR : RepM M I A L J K) (hV : Val I A L) (o : Int32) (d : Int32) : zCi zX11_setter fr 0 0 [zr (40, 0), zi o, zi d] M (fun x M' => zEM M x (sp_setter I A L o d) M') := by
  refine z_enter (L := [some (zr (40, 0)), some (zi o), some (zi d)]) rfl (by decide +kernel) (Nat.le_of_ble_eq_true rfl) ?_
  refine z_il iX11_setter_0 rfl ?_
  refine z_co iX11_setter_1 ?_
  refine z_co iX11_setter_3 ?_
  refine z_cs3i (fr' := fr - 1) iX11_setter_5 zmX11_in (c11_in _ _ _) (by omega) (Nat.le_of_ble_eq_true rfl) (fun x M1 hq => ?_)
  obtain ⟨rfl, rfl⟩ := hq
  refine z_ib_eq iX11_setter_8 (fun h1 => ?_) (fun h1 => ?_)
  · refine z_co iX11_setter_22 ?_
    refine z_iret iX11_setter_24 rfl ?_
    refine ⟨_, rfl, ?_⟩
    unfold sp_setter
    repeat' split
    all_goals first | exact zEM.rd hR | exact zEM.wr (hR.obj (I' := zup (zup I 2 o) 3 d) (J' := J) (K' := K) rfl) (zfr zfr_nil (by decide)) | (exfalso; simp only [true_and, and_true, false_and, and_false, true_or, or_true, false_or, or_false, not_true_eq_false, not_false_eq_true, zN, zBw, zUnd, zCor, zi_eq, zi_le, zi_lt, Int32.reduceToInt, List.length_cons, List.length_nil] at *; omega)
  · refine z_il iX11_setter_11 rfl ?_
    refine z_co iX11_setter_12 ?_
    refine z_co iX11_setter_14 ?_
    refine z_cs3i (fr' := fr - 1) iX11_setter_16 zmX11_in (c11_in _ _ _) (by omega) (Nat.le_of_ble_eq_true rfl) (fun x M1 hq => ?_)
    obtain ⟨rfl, rfl⟩ := hq
    refine z_ib_ne iX11_setter_19 (fun h2 => ?_) (fun h2 => ?_)
    · refine z_al iX11_setter_25 rfl ?_
      refine z_il iX11_setter_26 rfl ?_
      refine z_pf iX11_setter_27 hR.1 (by decide) (Nat.le_of_ble_eq_true rfl) trivial ?_
      refine z_al iX11_setter_30 rfl ?_
      refine z_il iX11_setter_31 rfl ?_
      refine z_pf2 iX11_setter_32 (by decide) (Nat.le_of_ble_eq_true rfl) trivial ?_
      refine z_co iX11_setter_35 ?_
      refine z_iret iX11_setter_36 rfl ?_
      refine ⟨_, rfl, ?_⟩
      unfold sp_setter
      repeat' split
      all_goals first | exact zEM.rd hR | exact zEM.wr (hR.obj (I' := zup (zup I 2 o) 3 d) (J' := J) (K' := K) rfl) (zfr zfr_nil (by decide)) | (exfalso; simp only [true_and, and_true, false_and, and_false, true_or, or_true, false_or, or_false, not_true_eq_false, not_false_eq_true, zN, zBw, zUnd, zCor, zi_eq, zi_le, zi_lt, Int32.reduceToInt, List.length_cons, List.length_nil] at *; omega)
    · refine z_co iX11_setter_22 ?_
      refine z_iret iX11_setter_24 rfl ?_
      refine ⟨_, rfl, ?_⟩
      unfold sp_setter
      repeat' split
      all_goals first | exact zEM.rd hR | exact zEM.wr (hR.obj (I' := zup (zup I 2 o) 3 d) (J' := J) (K' := K) rfl) (zfr zfr_nil (by decide)) | (exfalso; simp only [true_and, and_true, false_and, and_false, true_or, or_true, false_or, or_false, not_true_eq_false, not_false_eq_true, zN, zBw, zUnd, zCor, zi_eq, zi_le, zi_lt, Int32.reduceToInt, List.length_cons, List.length_nil] at *; omega)
set_option maxRecDepth 20000 in
set_option maxHeartbeats 4000000 in
theorem pm_calibrate {fr : Nat} {M : zM} {I J : zSI} {A : zSA} {L : zSL} {K : Int64} (hf : 3 ≤ fr) (hR : RepM M I A L J K) (hV : Val I A L) (m : Int32) : zCi zX11_calibrate fr 0 0 [zr (40, 0), zi m] M (fun x M' => zEM M x (sp_calibrate I A L m) M') := by
  refine z_enter (L := [some (zr (40, 0)), some (zi m)]) rfl (by decide +kernel) (Nat.le_of_ble_eq_true rfl) ?_
  refine z_il iX11_calibrate_0 rfl ?_
  refine z_co iX11_calibrate_1 ?_
  refine z_co iX11_calibrate_3 ?_
  refine z_cs3i (fr' := fr - 1) iX11_calibrate_6 zmX11_in (c11_in _ _ _) (by omega) (Nat.le_of_ble_eq_true rfl) (fun x M1 hq => ?_)
  obtain ⟨rfl, rfl⟩ := hq
  refine z_ib_ne iX11_calibrate_9 (fun h1 => ?_) (fun h1 => ?_)
  · refine z_al iX11_calibrate_15 rfl ?_
    refine z_il iX11_calibrate_16 rfl ?_
    refine z_al iX11_calibrate_17 rfl ?_
    refine z_il iX11_calibrate_18 rfl ?_
    refine z_cv1i (fr' := fr - 1) iX11_calibrate_19 zmX11_reads hR.1 (c11_reads hR _) (by omega) (Nat.le_of_ble_eq_true rfl) (fun x M1 hq => ?_)
    obtain ⟨rfl, rfl⟩ := hq
    refine z_isub iX11_calibrate_22 ?_
    refine z_pf iX11_calibrate_23 hR.1 (by decide) (Nat.le_of_ble_eq_true rfl) trivial ?_
    refine z_al iX11_calibrate_26 rfl ?_
    refine z_gf iX11_calibrate_27 zupd_s rfl ?_
    refine z_iret iX11_calibrate_30 rfl ?_
    refine ⟨_, rfl, ?_⟩
    unfold sp_calibrate
    repeat' split
    all_goals first | exact zEM.rd hR | exact zEM.wr (hR.obj (I' := zup I 4 (m - zReads (I 2) (I 3) m)) (J' := J) (K' := K) rfl) (zfr zfr_nil (by decide)) | (exfalso; simp only [true_and, and_true, false_and, and_false, true_or, or_true, false_or, or_false, not_true_eq_false, not_false_eq_true, zN, zBw, zUnd, zCor, zi_eq, zi_le, zi_lt, Int32.reduceToInt, List.length_cons, List.length_nil] at *; omega)
  · refine z_co iX11_calibrate_12 ?_
    refine z_iret iX11_calibrate_14 rfl ?_
    refine ⟨_, rfl, ?_⟩
    unfold sp_calibrate
    repeat' split
    all_goals first | exact zEM.rd hR | exact zEM.wr (hR.obj (I' := zup I 4 (m - zReads (I 2) (I 3) m)) (J' := J) (K' := K) rfl) (zfr zfr_nil (by decide)) | (exfalso; simp only [true_and, and_true, false_and, and_false, true_or, or_true, false_or, or_false, not_true_eq_false, not_false_eq_true, zN, zBw, zUnd, zCor, zi_eq, zi_le, zi_lt, Int32.reduceToInt, List.length_cons, List.length_nil] at *; omega)
set_option maxRecDepth 20000 in
set_option maxHeartbeats 4000000 in
theorem c11_wearOf {fr : Nat} {M : zM} {I J : zSI} {A : zSA} {L : zSL} {K : Int64} (hR : RepM M I A L J K) (e s h : Int32) {j : Nat} (hi : e.toInt = (j : Int)) (hj : j < 24) : zCi zX11_wearOf fr 0 0 [zr (40, 0), zi e, zi s, zi h] M (fun x M' => M' = M ∧ x = zWear (A 0 j) s h) := by
  refine z_enter (L := [some (zr (40, 0)), some (zi e), some (zi s), some (zi h)]) rfl (by decide +kernel) (Nat.le_of_ble_eq_true rfl) ?_
  refine z_al iX11_wearOf_0 rfl ?_
  refine z_gf iX11_wearOf_1 hR.1 rfl ?_
  refine z_il iX11_wearOf_4 rfl ?_
  refine z_iald iX11_wearOf_5 (hR.2.1 0 (by decide)) hi hj ?_
  refine z_sw iX11_wearOf_6 ⟨fun h1 => ?_, fun h1 => ?_, fun h1 => ?_, fun h1 => ?_, fun h1 => ?_, trivial⟩ (fun h1 => ?_)
  · refine z_il iX11_wearOf_40 rfl ?_
    refine z_il iX11_wearOf_41 rfl ?_
    refine z_imul iX11_wearOf_42 ?_
    refine z_il iX11_wearOf_43 rfl ?_
    refine z_iadd iX11_wearOf_44 ?_
    refine z_iret iX11_wearOf_45 rfl ?_
    refine ⟨_, rfl, rfl, ?_⟩
    unfold zWear
    try simp only [List.length_cons, List.length_nil] at *
    repeat' split
    all_goals first | rfl | grind | (exfalso; simp only [zi_eq, Int32.reduceToInt] at *; omega) | (exfalso; simp only [zi_le, zi_lt, zi_eq, Int32.reduceToInt] at *; omega)
  · refine z_il iX11_wearOf_46 rfl ?_
    refine z_il iX11_wearOf_47 rfl ?_
    refine z_imul iX11_wearOf_48 ?_
    refine z_il iX11_wearOf_49 rfl ?_
    refine z_iadd iX11_wearOf_50 ?_
    refine z_il iX11_wearOf_51 rfl ?_
    refine z_isub iX11_wearOf_52 ?_
    refine z_co iX11_wearOf_53 ?_
    refine z_icmp_ge iX11_wearOf_54 (fun h2 => ?_) (fun h2 => ?_)
    · refine z_il iX11_wearOf_61 rfl ?_
      refine z_il iX11_wearOf_62 rfl ?_
      refine z_imul iX11_wearOf_63 ?_
      refine z_il iX11_wearOf_64 rfl ?_
      refine z_iadd iX11_wearOf_65 ?_
      refine z_il iX11_wearOf_66 rfl ?_
      refine z_isub iX11_wearOf_67 ?_
      refine z_iret iX11_wearOf_68 rfl ?_
      refine ⟨_, rfl, rfl, ?_⟩
      unfold zWear
      try simp only [List.length_cons, List.length_nil] at *
      repeat' split
      all_goals first | rfl | grind | (exfalso; simp only [zi_eq, Int32.reduceToInt] at *; omega) | (exfalso; simp only [zi_le, zi_lt, zi_eq, Int32.reduceToInt] at *; omega)
    · refine z_co iX11_wearOf_57 ?_
      refine z_goto iX11_wearOf_58 ?_
      refine z_iret iX11_wearOf_68 rfl ?_
      refine ⟨_, rfl, rfl, ?_⟩
      unfold zWear
      try simp only [List.length_cons, List.length_nil] at *
      repeat' split
      all_goals first | rfl | grind | (exfalso; simp only [zi_eq, Int32.reduceToInt] at *; omega) | (exfalso; simp only [zi_le, zi_lt, zi_eq, Int32.reduceToInt] at *; omega)
  · refine z_co iX11_wearOf_69 ?_
    refine z_il iX11_wearOf_70 rfl ?_
    refine z_imul iX11_wearOf_71 ?_
    refine z_il iX11_wearOf_72 rfl ?_
    refine z_imul iX11_wearOf_73 ?_
    refine z_iret iX11_wearOf_74 rfl ?_
    refine ⟨_, rfl, rfl, ?_⟩
    unfold zWear
    try simp only [List.length_cons, List.length_nil] at *
    repeat' split
    all_goals first | rfl | grind | (exfalso; simp only [zi_eq, Int32.reduceToInt] at *; omega) | (exfalso; simp only [zi_le, zi_lt, zi_eq, Int32.reduceToInt] at *; omega)
  · refine z_co iX11_wearOf_75 ?_
    refine z_il iX11_wearOf_76 rfl ?_
    refine z_imul iX11_wearOf_77 ?_
    refine z_il iX11_wearOf_78 rfl ?_
    refine z_imul iX11_wearOf_79 ?_
    refine z_il iX11_wearOf_80 rfl ?_
    refine z_iadd iX11_wearOf_81 ?_
    refine z_iret iX11_wearOf_82 rfl ?_
    refine ⟨_, rfl, rfl, ?_⟩
    unfold zWear
    try simp only [List.length_cons, List.length_nil] at *
    repeat' split
    all_goals first | rfl | grind | (exfalso; simp only [zi_eq, Int32.reduceToInt] at *; omega) | (exfalso; simp only [zi_le, zi_lt, zi_eq, Int32.reduceToInt] at *; omega)
  · refine z_co iX11_wearOf_83 ?_
    refine z_il iX11_wearOf_84 rfl ?_
    refine z_imul iX11_wearOf_85 ?_
    refine z_il iX11_wearOf_86 rfl ?_
    refine z_imul iX11_wearOf_87 ?_
    refine z_il iX11_wearOf_88 rfl ?_
    refine z_iadd iX11_wearOf_89 ?_
    refine z_iret iX11_wearOf_90 rfl ?_
    refine ⟨_, rfl, rfl, ?_⟩
    unfold zWear
    try simp only [List.length_cons, List.length_nil] at *
    repeat' split
    all_goals first | rfl | grind | (exfalso; simp only [zi_eq, Int32.reduceToInt] at *; omega) | (exfalso; simp only [zi_le, zi_lt, zi_eq, Int32.reduceToInt] at *; omega)
  · refine z_il iX11_wearOf_91 rfl ?_
    refine z_il iX11_wearOf_92 rfl ?_
    refine z_imul iX11_wearOf_93 ?_
    refine z_iret iX11_wearOf_94 rfl ?_
    refine ⟨_, rfl, rfl, ?_⟩
    unfold zWear
    try simp only [List.length_cons, List.length_nil] at *
    repeat' split
    all_goals first | rfl | grind | (exfalso; simp only [zi_eq, Int32.reduceToInt] at *; omega) | (exfalso; simp only [zi_le, zi_lt, zi_eq, Int32.reduceToInt] at *; omega)
set_option maxRecDepth 20000 in
set_option maxHeartbeats 4000000 in
theorem pm_wear {fr : Nat} {M : zM} {I J : zSI} {A : zSA} {L : zSL} {K : Int64} (hf : 3 ≤ fr) (hR : RepM M I A L J K) (hV : Val I A L) (e : Int32) (s : Int32) (h : Int32) : zCi zX11_wear fr 0 0 [zr (40, 0), zi e, zi s, zi h] M (fun x M' => zEM M x (sp_wear I A L e s h) M') := by
  refine z_enter (L := [some (zr (40, 0)), some (zi e), some (zi s), some (zi h)]) rfl (by decide +kernel) (Nat.le_of_ble_eq_true rfl) ?_
  refine z_al iX11_wear_0 rfl ?_
  refine z_il iX11_wear_1 rfl ?_
  refine z_cv1i (fr' := fr - 1) iX11_wear_2 zmX11_isEdge hR.1 (c11_isEdge (by omega) hR _) (by omega) (Nat.le_of_ble_eq_true rfl) (fun x M1 hq => ?_)
  obtain ⟨rfl, rfl⟩ := hq
  refine z_ib_eq iX11_wear_5 (fun h1 => ?_) (fun h1 => ?_)
  · refine z_co iX11_wear_38 ?_
    refine z_iret iX11_wear_40 rfl ?_
    refine ⟨_, rfl, ?_⟩
    unfold sp_wear
    repeat' split
    all_goals first | exact zEM.rd hR | (exfalso; simp only [true_and, and_true, false_and, and_false, true_or, or_true, false_or, or_false, not_true_eq_false, not_false_eq_true, zN, zBw, zUnd, zCor, zi_eq, zi_le, zi_lt, Int32.reduceToInt, List.length_cons, List.length_nil] at *; omega)
  · refine z_il iX11_wear_8 rfl ?_
    refine z_co iX11_wear_9 ?_
    refine z_co iX11_wear_10 ?_
    refine z_cs3i (fr' := fr - 1) iX11_wear_12 zmX11_in (c11_in _ _ _) (by omega) (Nat.le_of_ble_eq_true rfl) (fun x M1 hq => ?_)
    obtain ⟨rfl, rfl⟩ := hq
    refine z_ib_eq iX11_wear_15 (fun h2 => ?_) (fun h2 => ?_)
    · refine z_co iX11_wear_38 ?_
      refine z_iret iX11_wear_40 rfl ?_
      refine ⟨_, rfl, ?_⟩
      unfold sp_wear
      repeat' split
      all_goals first | exact zEM.rd hR | (exfalso; simp only [true_and, and_true, false_and, and_false, true_or, or_true, false_or, or_false, not_true_eq_false, not_false_eq_true, zN, zBw, zUnd, zCor, zi_eq, zi_le, zi_lt, Int32.reduceToInt, List.length_cons, List.length_nil] at *; omega)
    · refine z_il iX11_wear_18 rfl ?_
      refine z_co iX11_wear_19 ?_
      refine z_co iX11_wear_20 ?_
      refine z_cs3i (fr' := fr - 1) iX11_wear_22 zmX11_in (c11_in _ _ _) (by omega) (Nat.le_of_ble_eq_true rfl) (fun x M1 hq => ?_)
      obtain ⟨rfl, rfl⟩ := hq
      refine z_ib_eq iX11_wear_25 (fun h3 => ?_) (fun h3 => ?_)
      · refine z_co iX11_wear_38 ?_
        refine z_iret iX11_wear_40 rfl ?_
        refine ⟨_, rfl, ?_⟩
        unfold sp_wear
        repeat' split
        all_goals first | exact zEM.rd hR | (exfalso; simp only [true_and, and_true, false_and, and_false, true_or, or_true, false_or, or_false, not_true_eq_false, not_false_eq_true, zN, zBw, zUnd, zCor, zi_eq, zi_le, zi_lt, Int32.reduceToInt, List.length_cons, List.length_nil] at *; omega)
      · refine z_al iX11_wear_28 rfl ?_
        refine z_il iX11_wear_29 rfl ?_
        refine z_il iX11_wear_30 rfl ?_
        refine z_il iX11_wear_31 rfl ?_
        refine z_cv3i (fr' := fr - 1) iX11_wear_32 zmX11_wearOf hR.1 (c11_wearOf hR _ _ _ (zIdx h1 hV.1.1 (by decide)).1 (zLt (zIdx h1 hV.1.1 (by decide)).2.2)) (by omega) (Nat.le_of_ble_eq_true rfl) (fun x M1 hq => ?_)
        obtain ⟨rfl, rfl⟩ := hq
        refine z_goto iX11_wear_35 ?_
        refine z_iret iX11_wear_40 rfl ?_
        refine ⟨_, rfl, ?_⟩
        unfold sp_wear
        repeat' split
        all_goals first | exact zEM.rd hR | (exfalso; simp only [true_and, and_true, false_and, and_false, true_or, or_true, false_or, or_false, not_true_eq_false, not_false_eq_true, zN, zBw, zUnd, zCor, zi_eq, zi_le, zi_lt, Int32.reduceToInt, List.length_cons, List.length_nil] at *; omega)
set_option maxRecDepth 20000 in
set_option maxHeartbeats 4000000 in
theorem pm_edgeTold {fr : Nat} {M : zM} {I J : zSI} {A : zSA} {L : zSL} {K : Int64} (hf : 3 ≤ fr) (hR : RepM M I A L J K) (hV : Val I A L) (e : Int32) (w : Int32) : zCi zX11_edgeTold fr 0 0 [zr (40, 0), zi e, zi w] M (fun x M' => zEM M x (sp_edgeTold I A L e w) M') := by
  refine z_enter (L := [some (zr (40, 0)), some (zi e), some (zi w)]) rfl (by decide +kernel) (Nat.le_of_ble_eq_true rfl) ?_
  refine z_al iX11_edgeTold_0 rfl ?_
  refine z_il iX11_edgeTold_1 rfl ?_
  refine z_cv1i (fr' := fr - 1) iX11_edgeTold_2 zmX11_isEdge hR.1 (c11_isEdge (by omega) hR _) (by omega) (Nat.le_of_ble_eq_true rfl) (fun x M1 hq => ?_)
  obtain ⟨rfl, rfl⟩ := hq
  refine z_ib_ne iX11_edgeTold_5 (fun h1 => ?_) (fun h1 => ?_)
  · refine z_il iX11_edgeTold_11 rfl ?_
    refine z_sw iX11_edgeTold_12 ⟨fun h2 => ?_, fun h2 => ?_, fun h2 => ?_, fun h2 => ?_, fun h2 => ?_, fun h2 => ?_, fun h2 => ?_, fun h2 => ?_, trivial⟩ (fun h2 => ?_)
    · refine z_al iX11_edgeTold_60 rfl ?_
      refine z_gf iX11_edgeTold_61 hR.1 rfl ?_
      refine z_il iX11_edgeTold_64 rfl ?_
      refine z_iald iX11_edgeTold_65 (hR.2.1 0 (by decide)) (zIdx h1 hV.1.1 (by decide)).1 (zLt (zIdx h1 hV.1.1 (by decide)).2.2) ?_
      refine z_iret iX11_edgeTold_66 rfl ?_
      refine ⟨_, rfl, ?_⟩
      unfold sp_edgeTold
      repeat' split
      all_goals first | exact zEM.rd hR | (exfalso; simp only [true_and, and_true, false_and, and_false, true_or, or_true, false_or, or_false, not_true_eq_false, not_false_eq_true, zN, zBw, zUnd, zCor, zi_eq, zi_le, zi_lt, Int32.reduceToInt, List.length_cons, List.length_nil] at *; omega)
    · refine z_al iX11_edgeTold_67 rfl ?_
      refine z_gf iX11_edgeTold_68 hR.1 rfl ?_
      refine z_il iX11_edgeTold_71 rfl ?_
      refine z_iald iX11_edgeTold_72 (hR.2.1 1 (by decide)) (zIdx h1 hV.1.1 (by decide)).1 (zLt (zIdx h1 hV.1.1 (by decide)).2.2) ?_
      refine z_iret iX11_edgeTold_73 rfl ?_
      refine ⟨_, rfl, ?_⟩
      unfold sp_edgeTold
      repeat' split
      all_goals first | exact zEM.rd hR | (exfalso; simp only [true_and, and_true, false_and, and_false, true_or, or_true, false_or, or_false, not_true_eq_false, not_false_eq_true, zN, zBw, zUnd, zCor, zi_eq, zi_le, zi_lt, Int32.reduceToInt, List.length_cons, List.length_nil] at *; omega)
    · refine z_al iX11_edgeTold_74 rfl ?_
      refine z_gf iX11_edgeTold_75 hR.1 rfl ?_
      refine z_il iX11_edgeTold_78 rfl ?_
      refine z_iald iX11_edgeTold_79 (hR.2.1 2 (by decide)) (zIdx h1 hV.1.1 (by decide)).1 (zLt (zIdx h1 hV.1.1 (by decide)).2.2) ?_
      refine z_iret iX11_edgeTold_80 rfl ?_
      refine ⟨_, rfl, ?_⟩
      unfold sp_edgeTold
      repeat' split
      all_goals first | exact zEM.rd hR | (exfalso; simp only [true_and, and_true, false_and, and_false, true_or, or_true, false_or, or_false, not_true_eq_false, not_false_eq_true, zN, zBw, zUnd, zCor, zi_eq, zi_le, zi_lt, Int32.reduceToInt, List.length_cons, List.length_nil] at *; omega)
    · refine z_al iX11_edgeTold_81 rfl ?_
      refine z_gf iX11_edgeTold_82 hR.1 rfl ?_
      refine z_il iX11_edgeTold_85 rfl ?_
      refine z_iald iX11_edgeTold_86 (hR.2.1 3 (by decide)) (zIdx h1 hV.1.1 (by decide)).1 (zLt (zIdx h1 hV.1.1 (by decide)).2.2) ?_
      refine z_iret iX11_edgeTold_87 rfl ?_
      refine ⟨_, rfl, ?_⟩
      unfold sp_edgeTold
      repeat' split
      all_goals first | exact zEM.rd hR | (exfalso; simp only [true_and, and_true, false_and, and_false, true_or, or_true, false_or, or_false, not_true_eq_false, not_false_eq_true, zN, zBw, zUnd, zCor, zi_eq, zi_le, zi_lt, Int32.reduceToInt, List.length_cons, List.length_nil] at *; omega)
    · refine z_al iX11_edgeTold_88 rfl ?_
      refine z_gf iX11_edgeTold_89 hR.1 rfl ?_
      refine z_il iX11_edgeTold_92 rfl ?_
      refine z_iald iX11_edgeTold_93 (hR.2.1 4 (by decide)) (zIdx h1 hV.1.1 (by decide)).1 (zLt (zIdx h1 hV.1.1 (by decide)).2.2) ?_
      refine z_iret iX11_edgeTold_94 rfl ?_
      refine ⟨_, rfl, ?_⟩
      unfold sp_edgeTold
      repeat' split
      all_goals first | exact zEM.rd hR | (exfalso; simp only [true_and, and_true, false_and, and_false, true_or, or_true, false_or, or_false, not_true_eq_false, not_false_eq_true, zN, zBw, zUnd, zCor, zi_eq, zi_le, zi_lt, Int32.reduceToInt, List.length_cons, List.length_nil] at *; omega)
    · refine z_al iX11_edgeTold_95 rfl ?_
      refine z_gf iX11_edgeTold_96 hR.1 rfl ?_
      refine z_il iX11_edgeTold_99 rfl ?_
      refine z_iald iX11_edgeTold_100 (hR.2.1 5 (by decide)) (zIdx h1 hV.1.1 (by decide)).1 (zLt (zIdx h1 hV.1.1 (by decide)).2.2) ?_
      refine z_iret iX11_edgeTold_101 rfl ?_
      refine ⟨_, rfl, ?_⟩
      unfold sp_edgeTold
      repeat' split
      all_goals first | exact zEM.rd hR | (exfalso; simp only [true_and, and_true, false_and, and_false, true_or, or_true, false_or, or_false, not_true_eq_false, not_false_eq_true, zN, zBw, zUnd, zCor, zi_eq, zi_le, zi_lt, Int32.reduceToInt, List.length_cons, List.length_nil] at *; omega)
    · refine z_al iX11_edgeTold_102 rfl ?_
      refine z_gf iX11_edgeTold_103 hR.1 rfl ?_
      refine z_il iX11_edgeTold_106 rfl ?_
      refine z_iald iX11_edgeTold_107 (hR.2.1 6 (by decide)) (zIdx h1 hV.1.1 (by decide)).1 (zLt (zIdx h1 hV.1.1 (by decide)).2.2) ?_
      refine z_iret iX11_edgeTold_108 rfl ?_
      refine ⟨_, rfl, ?_⟩
      unfold sp_edgeTold
      repeat' split
      all_goals first | exact zEM.rd hR | (exfalso; simp only [true_and, and_true, false_and, and_false, true_or, or_true, false_or, or_false, not_true_eq_false, not_false_eq_true, zN, zBw, zUnd, zCor, zi_eq, zi_le, zi_lt, Int32.reduceToInt, List.length_cons, List.length_nil] at *; omega)
    · refine z_al iX11_edgeTold_109 rfl ?_
      refine z_gf iX11_edgeTold_110 hR.1 rfl ?_
      refine z_il iX11_edgeTold_113 rfl ?_
      refine z_iald iX11_edgeTold_114 (hR.2.1 9 (by decide)) (zIdx h1 hV.1.1 (by decide)).1 (zLt (zIdx h1 hV.1.1 (by decide)).2.2) ?_
      refine z_iret iX11_edgeTold_115 rfl ?_
      refine ⟨_, rfl, ?_⟩
      unfold sp_edgeTold
      repeat' split
      all_goals first | exact zEM.rd hR | (exfalso; simp only [true_and, and_true, false_and, and_false, true_or, or_true, false_or, or_false, not_true_eq_false, not_false_eq_true, zN, zBw, zUnd, zCor, zi_eq, zi_le, zi_lt, Int32.reduceToInt, List.length_cons, List.length_nil] at *; omega)
    · refine z_co iX11_edgeTold_116 ?_
      refine z_iret iX11_edgeTold_118 rfl ?_
      refine ⟨_, rfl, ?_⟩
      unfold sp_edgeTold
      repeat' split
      all_goals first | exact zEM.rd hR | (exfalso; simp only [true_and, and_true, false_and, and_false, true_or, or_true, false_or, or_false, not_true_eq_false, not_false_eq_true, zN, zBw, zUnd, zCor, zi_eq, zi_le, zi_lt, Int32.reduceToInt, List.length_cons, List.length_nil] at *; omega)
  · refine z_co iX11_edgeTold_8 ?_
    refine z_iret iX11_edgeTold_10 rfl ?_
    refine ⟨_, rfl, ?_⟩
    unfold sp_edgeTold
    repeat' split
    all_goals first | exact zEM.rd hR | (exfalso; simp only [true_and, and_true, false_and, and_false, true_or, or_true, false_or, or_false, not_true_eq_false, not_false_eq_true, zN, zBw, zUnd, zCor, zi_eq, zi_le, zi_lt, Int32.reduceToInt, List.length_cons, List.length_nil] at *; omega)
