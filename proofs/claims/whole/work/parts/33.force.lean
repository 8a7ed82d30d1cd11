theorem RepX.obj {TR : zTR} {JR : zJR} {M : zM} {I : zSI} {A : zSA} {L : zSL} (h : RepX TR JR M I A L) (v : Int32) {fs : List zVal} (hfs : fs = xObj (zup I 6 v)) : RepX TR JR (zupd M (2, 0) (.inr (10, fs))) (zup I 6 v) A L := by
  subst hfs
  obtain ⟨h1, h2, h3, h4, h5, h6, h7, h8, h9⟩ := h
  exact ⟨⟨zupd_s, (zupd_k (by decide : (3 : Nat) ≠ 2)).trans h1.2.1, (zupd_k (by decide : (4 : Nat) ≠ 2)).trans h1.2.2.1, (zupd_k (by decide : (5 : Nat) ≠ 2)).trans h1.2.2.2.1, (zupd_k (by decide : (6 : Nat) ≠ 2)).trans h1.2.2.2.2.1, (zupd_k (by decide : (7 : Nat) ≠ 2)).trans h1.2.2.2.2.2.1, (zupd_k (by decide : (8 : Nat) ≠ 2)).trans h1.2.2.2.2.2.2⟩,
    xEd.fr (I := zup I 6 v) h2 (fun e => zupd_k (by decide : (28 : Nat) ≠ 2)) (fun e => zupd_k (by decide : (29 : Nat) ≠ 2)), xTo.fr (I := zup I 6 v) h3 (fun e => zupd_k (by decide : (30 : Nat) ≠ 2)), xMa.fr (I := zup I 6 v) h4 (fun e => zupd_k (by decide : (31 : Nat) ≠ 2)) (fun e => zupd_k (by decide : (32 : Nat) ≠ 2)), h5.fr (fun e => zupd_k (by decide : (26 : Nat) ≠ 2)) (fun e => zupd_k (by decide : (27 : Nat) ≠ 2)), xTx.fr (I := zup I 6 v) h6 (fun e => zupd_k (by decide : (23 : Nat) ≠ 2)) (fun e => zupd_k (by decide : (24 : Nat) ≠ 2)) (fun e => zupd_k (by decide : (25 : Nat) ≠ 2)), xTa.fr (I := zup I 6 v) h7 (zupd_k (by decide : (10 : Nat) ≠ 2)) (zupd_k (by decide : (19 : Nat) ≠ 2)) (zupd_k (by decide : (20 : Nat) ≠ 2)) (zupd_k (by decide : (21 : Nat) ≠ 2)), h8.fr (zupd_k (by decide : (11 : Nat) ≠ 2)) (zupd_k (by decide : (12 : Nat) ≠ 2)) (zupd_k (by decide : (22 : Nat) ≠ 2)) (zupd_k (by decide : (13 : Nat) ≠ 2)), xJo.fr (I := zup I 6 v) h9 (zupd_k (by decide : (9 : Nat) ≠ 2)) (zupd_k (by decide : (14 : Nat) ≠ 2)) (zupd_k (by decide : (15 : Nat) ≠ 2)) (zupd_k (by decide : (16 : Nat) ≠ 2)) (zupd_k (by decide : (17 : Nat) ≠ 2)) (fun e => zupd_k (by decide : (18 : Nat) ≠ 2))⟩
theorem zifc {α : Type} {p q : Prop} {dp : Decidable p} {dq : Decidable q} {a b : α} (h : p ↔ q) : @ite _ p dp a b = @ite _ q dq a b := by
  by_cases z : p
  · rw [if_pos z, if_pos (h.mp z)]
  · rw [if_neg z, if_neg (fun y => z (h.mpr y))]
def sp_force (I : zSI) (A : zSA) (L : zSL) (t : Int32) : zRes := if ¬ zBw t 0 (I 5 - 1) then (-2, I, A, L) else (I 6, zup I 6 t, A, L)
abbrev zUA (a k : Int32) : Prop := ¬ a = -1 ∧ zUnd a k
def sp_taken (I : zSI) (A : zSA) (L : zSL) (e k : Int32) : zRes := (if ¬ zBw k 0 5 then -2 else if ¬ zBw e 0 (I 0 - 1) then -11 else if zUnd (A 0 (zN e)) k then A 1 (zN e) else -13, I, A, L)
def zOver (a : Int32) : Int32 := if a = 0 then -1 else if a = 2 ∨ a = 5 then 1 else if a = 4 then 3 else 0
set_option maxRecDepth 20000 in
set_option maxHeartbeats 4000000 in
theorem pm_force {fr : Nat} {M : zM} {I J : zSI} {A : zSA} {L : zSL} {K : Int64} (hf : 3 ≤ fr) (hR : RepM M I A L J K) (hV : Val I A L) (t : Int32) : zCi zX11_force fr 0 0 [zr (40, 0), zi t] M (fun x M' => zEM M x (sp_force I A L t) M') := by
  refine z_enter (L := [some (zr (40, 0)), some (zi t)]) rfl (by decide +kernel) (Nat.le_of_ble_eq_true rfl) ?_
  refine z_il iX11_force_0 rfl ?_
  refine z_co iX11_force_1 ?_
  refine z_al iX11_force_2 rfl ?_
  refine z_gf iX11_force_3 hR.1 rfl ?_
  refine z_co iX11_force_6 ?_
  refine z_isub iX11_force_7 ?_
  refine z_cs3i (fr' := fr - 1) iX11_force_8 zmX11_in (c11_in _ _ _) (by omega) (Nat.le_of_ble_eq_true rfl) (fun x M1 hq => ?_)
  obtain ⟨rfl, rfl⟩ := hq
  refine z_ib_ne iX11_force_11 (fun h1 => ?_) (fun h1 => ?_)
  · refine z_al iX11_force_17 rfl ?_
    refine z_gf iX11_force_18 hR.1 rfl ?_
    refine z_is iX11_force_21 ?_
    refine z_al iX11_force_22 rfl ?_
    refine z_il iX11_force_23 rfl ?_
    refine z_pf iX11_force_24 hR.1 (by decide) (Nat.le_of_ble_eq_true rfl) trivial ?_
    refine z_il iX11_force_27 rfl ?_
    refine z_iret iX11_force_28 rfl ?_
    refine ⟨_, rfl, ?_⟩
    unfold sp_force
    repeat' split
    all_goals first | exact zEM.rd hR | exact zEM.wr (hR.obj (I' := zup I 6 t) (J' := J) (K' := K) rfl) (zfr zfr_nil (by decide)) | (exfalso; simp only [true_and, and_true, false_and, and_false, true_or, or_true, false_or, or_false, not_true_eq_false, not_false_eq_true, zN, zBw, zUnd, zCor, zi_eq, zi_le, zi_lt, Int32.reduceToInt, List.length_cons, List.length_nil] at *; omega)
  · refine z_co iX11_force_14 ?_
    refine z_iret iX11_force_16 rfl ?_
    refine ⟨_, rfl, ?_⟩
    unfold sp_force
    repeat' split
    all_goals first | exact zEM.rd hR | (exfalso; simp only [true_and, and_true, false_and, and_false, true_or, or_true, false_or, or_false, not_true_eq_false, not_false_eq_true, zN, zBw, zUnd, zCor, zi_eq, zi_le, zi_lt, Int32.reduceToInt, List.length_cons, List.length_nil] at *; omega)
set_option maxRecDepth 20000 in
set_option maxHeartbeats 4000000 in
theorem px_force {TR : zTR} {JR : zJR} {fr : Nat} {M : zM} {I : zSI} {A : zSA} {L : zSL} (hf : 4 ≤ fr) (hX : RepX TR JR M I A L) (hV : Val I A L) (t : Int32) : zCi zX10_force fr 0 0 [zr (2, 0), zi t] M (fun x M' => zEX TR JR M x (sp_force I A L t) M') := by
  refine z_enter (L := [some (zr (2, 0)), some (zi t)]) rfl (by decide +kernel) (Nat.le_of_ble_eq_true rfl) ?_
  refine z_il iX10_force_0 rfl ?_
  refine z_co iX10_force_1 ?_
  refine z_al iX10_force_2 rfl ?_
  refine z_gf iX10_force_3 hX.1.1 rfl ?_
  refine z_co iX10_force_6 ?_
  refine z_isub iX10_force_7 ?_
  refine z_cs3i (fr' := fr - 1) iX10_force_8 zmX10_within (c10_within _ _ _) (by omega) (Nat.le_of_ble_eq_true rfl) (fun x M1 hq => ?_)
  obtain ⟨rfl, rfl⟩ := hq
  refine z_ib_ne iX10_force_11 (fun h1 => ?_) (fun h1 => ?_)
  · refine z_al iX10_force_17 rfl ?_
    refine z_gf iX10_force_18 hX.1.1 rfl ?_
    refine z_is iX10_force_21 ?_
    refine z_al iX10_force_22 rfl ?_
    refine z_il iX10_force_23 rfl ?_
    refine z_pf iX10_force_24 hX.1.1 (by decide) (Nat.le_of_ble_eq_true rfl) trivial ?_
    refine z_il iX10_force_27 rfl ?_
    refine z_iret iX10_force_28 rfl ?_
    refine ⟨_, rfl, ?_⟩
    unfold sp_force
    repeat' split
    all_goals first | exact zEX.rd hX | exact zEX.wr (hX.obj t rfl) (zfx zfx_nil (by decide)) | (exfalso; simp only [true_and, and_true, false_and, and_false, true_or, or_true, false_or, or_false, not_true_eq_false, not_false_eq_true, zN, zBw, zUnd, zCor, zi_eq, zi_le, zi_lt, Int32.reduceToInt, List.length_cons, List.length_nil] at *; omega)
  · refine z_co iX10_force_14 ?_
    refine z_iret iX10_force_16 rfl ?_
    refine ⟨_, rfl, ?_⟩
    unfold sp_force
    repeat' split
    all_goals first | exact zEX.rd hX | (exfalso; simp only [true_and, and_true, false_and, and_false, true_or, or_true, false_or, or_false, not_true_eq_false, not_false_eq_true, zN, zBw, zUnd, zCor, zi_eq, zi_le, zi_lt, Int32.reduceToInt, List.length_cons, List.length_nil] at *; omega)
set_option maxRecDepth 20000 in
set_option maxHeartbeats 4000000 in
theorem c11_over {fr : Nat} {M : zM} (a : Int32) : zCi zX11_over fr 0 0 [zi a] M (fun x M' => M' = M ∧ x = zOver a) := by
  refine z_enter (L := [some (zi a)]) rfl (by decide +kernel) (Nat.le_of_ble_eq_true rfl) ?_
  refine z_il iX11_over_0 rfl ?_
  refine z_if_ne iX11_over_1 (fun h1 => ?_) (fun h1 => ?_)
  · refine z_il iX11_over_8 rfl ?_
    refine z_co iX11_over_9 ?_
    refine z_icmp_eq iX11_over_10 (fun h2 => ?_) (fun h2 => ?_)
    · refine z_co iX11_over_18 ?_
      refine z_goto iX11_over_19 ?_
      refine z_iret iX11_over_32 rfl ?_
      refine ⟨_, rfl, rfl, ?_⟩
      unfold zOver
      repeat' split
      all_goals first | rfl | (exfalso; simp only [true_and, and_true, false_and, and_false, true_or, or_true, false_or, or_false, not_true_eq_false, not_false_eq_true, zN, zBw, zUnd, zCor, zi_eq, zi_le, zi_lt, Int32.reduceToInt, List.length_cons, List.length_nil] at * <;> omega)
    · refine z_il iX11_over_13 rfl ?_
      refine z_co iX11_over_14 ?_
      refine z_icmp_ne iX11_over_15 (fun h3 => ?_) (fun h3 => ?_)
      · refine z_il iX11_over_22 rfl ?_
        refine z_co iX11_over_23 ?_
        refine z_icmp_ne iX11_over_24 (fun h4 => ?_) (fun h4 => ?_)
        · refine z_co iX11_over_31 ?_
          refine z_iret iX11_over_32 rfl ?_
          refine ⟨_, rfl, rfl, ?_⟩
          unfold zOver
          repeat' split
          all_goals first | rfl | (exfalso; simp only [true_and, and_true, false_and, and_false, true_or, or_true, false_or, or_false, not_true_eq_false, not_false_eq_true, zN, zBw, zUnd, zCor, zi_eq, zi_le, zi_lt, Int32.reduceToInt, List.length_cons, List.length_nil] at * <;> omega)
        · refine z_co iX11_over_27 ?_
          refine z_goto iX11_over_28 ?_
          refine z_iret iX11_over_32 rfl ?_
          refine ⟨_, rfl, rfl, ?_⟩
          unfold zOver
          repeat' split
          all_goals first | rfl | (exfalso; simp only [true_and, and_true, false_and, and_false, true_or, or_true, false_or, or_false, not_true_eq_false, not_false_eq_true, zN, zBw, zUnd, zCor, zi_eq, zi_le, zi_lt, Int32.reduceToInt, List.length_cons, List.length_nil] at * <;> omega)
      · refine z_co iX11_over_18 ?_
        refine z_goto iX11_over_19 ?_
        refine z_iret iX11_over_32 rfl ?_
        refine ⟨_, rfl, rfl, ?_⟩
        unfold zOver
        repeat' split
        all_goals first | rfl | (exfalso; simp only [true_and, and_true, false_and, and_false, true_or, or_true, false_or, or_false, not_true_eq_false, not_false_eq_true, zN, zBw, zUnd, zCor, zi_eq, zi_le, zi_lt, Int32.reduceToInt, List.length_cons, List.length_nil] at * <;> omega)
  · refine z_co iX11_over_4 ?_
    refine z_goto iX11_over_5 ?_
    refine z_iret iX11_over_32 rfl ?_
    refine ⟨_, rfl, rfl, ?_⟩
    unfold zOver
    repeat' split
    all_goals first | rfl | (exfalso; simp only [true_and, and_true, false_and, and_false, true_or, or_true, false_or, or_false, not_true_eq_false, not_false_eq_true, zN, zBw, zUnd, zCor, zi_eq, zi_le, zi_lt, Int32.reduceToInt, List.length_cons, List.length_nil] at * <;> omega)
set_option maxRecDepth 20000 in
set_option maxHeartbeats 4000000 in
theorem l11_tm1 {fr : Nat} {M : zM} {I J : zSI} {A : zSA} {L : zSL} {K : Int64} (hf : 1 ≤ fr) (hR : RepM M I A L J K) (e k : Int32) (hk : zBw k 0 5) (hi : e.toInt = (zN e : Int)) (hj : zN e < 24) : zV zX11_taken fr 0 0 30 (zL [some (zr (40, 0)), some (zi e), some (zi k), some (zi (-1))]) [] M (fun r M' => ∃ x, r = some (zi x) ∧ M' = M ∧ x = if zUA (-1) k then A 1 (zN e) else -13) := by
  refine z_il iX11_taken_30 rfl ?_
  refine z_co iX11_taken_31 ?_
  refine z_icmp_eq iX11_taken_32 (fun h1 => ?_) (fun h1 => ?_)
  · refine z_il iX11_taken_48 rfl ?_
    refine z_il iX11_taken_49 rfl ?_
    refine z_icmp_ne iX11_taken_50 (fun h2 => ?_) (fun h2 => ?_)
    · refine z_co iX11_taken_62 ?_
      refine z_iret iX11_taken_64 rfl ?_
      refine ⟨_, rfl, rfl, ?_⟩
      by_cases gg : zUA (-1) k
      · first | exact (if_pos gg).symm | (exfalso; simp only [true_and, and_true, false_and, and_false, true_or, or_true, false_or, or_false, not_true_eq_false, not_false_eq_true, zN, zBw, zUnd, zUA, zOver, zCor, zi_eq, zi_le, zi_lt, Int32.reduceToInt, List.length_cons, List.length_nil] at * <;> omega)
      · first | exact (if_neg gg).symm | (exfalso; simp only [true_and, and_true, false_and, and_false, true_or, or_true, false_or, or_false, not_true_eq_false, not_false_eq_true, zN, zBw, zUnd, zUA, zOver, zCor, zi_eq, zi_le, zi_lt, Int32.reduceToInt, List.length_cons, List.length_nil] at * <;> omega)
    · refine z_al iX11_taken_53 rfl ?_
      refine z_gf iX11_taken_54 hR.1 rfl ?_
      refine z_il iX11_taken_57 rfl ?_
      refine z_iald iX11_taken_58 (hR.2.1 1 (by decide)) hi hj ?_
      refine z_goto iX11_taken_59 ?_
      refine z_iret iX11_taken_64 rfl ?_
      refine ⟨_, rfl, rfl, ?_⟩
      by_cases gg : zUA (-1) k
      · first | exact (if_pos gg).symm | (exfalso; simp only [true_and, and_true, false_and, and_false, true_or, or_true, false_or, or_false, not_true_eq_false, not_false_eq_true, zN, zBw, zUnd, zUA, zOver, zCor, zi_eq, zi_le, zi_lt, Int32.reduceToInt, List.length_cons, List.length_nil] at * <;> omega)
      · first | exact (if_neg gg).symm | (exfalso; simp only [true_and, and_true, false_and, and_false, true_or, or_true, false_or, or_false, not_true_eq_false, not_false_eq_true, zN, zBw, zUnd, zUA, zOver, zCor, zi_eq, zi_le, zi_lt, Int32.reduceToInt, List.length_cons, List.length_nil] at * <;> omega)
  · exact absurd rfl h1
set_option maxRecDepth 20000 in
set_option maxHeartbeats 4000000 in
theorem l11_t0 {fr : Nat} {M : zM} {I J : zSI} {A : zSA} {L : zSL} {K : Int64} (hf : 1 ≤ fr) (hR : RepM M I A L J K) (e k : Int32) (hk : zBw k 0 5) (hi : e.toInt = (zN e : Int)) (hj : zN e < 24) : zV zX11_taken fr 0 0 30 (zL [some (zr (40, 0)), some (zi e), some (zi k), some (zi (0))]) [] M (fun r M' => ∃ x, r = some (zi x) ∧ M' = M ∧ x = if zUA (0) k then A 1 (zN e) else -13) := by
  refine z_il iX11_taken_30 rfl ?_
  refine z_co iX11_taken_31 ?_
  refine z_icmp_eq iX11_taken_32 (fun h1 => ?_) (fun h1 => ?_)
  · refine z_il iX11_taken_48 rfl ?_
    refine z_il iX11_taken_49 rfl ?_
    refine z_icmp_ne iX11_taken_50 (fun h2 => ?_) (fun h2 => ?_)
    · refine z_co iX11_taken_62 ?_
      refine z_iret iX11_taken_64 rfl ?_
      refine ⟨_, rfl, rfl, ?_⟩
      by_cases gg : zUA (0) k
      · first | exact (if_pos gg).symm | (exfalso; simp only [true_and, and_true, false_and, and_false, true_or, or_true, false_or, or_false, not_true_eq_false, not_false_eq_true, zN, zBw, zUnd, zUA, zOver, zCor, zi_eq, zi_le, zi_lt, Int32.reduceToInt, List.length_cons, List.length_nil] at * <;> omega)
      · first | exact (if_neg gg).symm | (exfalso; simp only [true_and, and_true, false_and, and_false, true_or, or_true, false_or, or_false, not_true_eq_false, not_false_eq_true, zN, zBw, zUnd, zUA, zOver, zCor, zi_eq, zi_le, zi_lt, Int32.reduceToInt, List.length_cons, List.length_nil] at * <;> omega)
    · refine z_al iX11_taken_53 rfl ?_
      refine z_gf iX11_taken_54 hR.1 rfl ?_
      refine z_il iX11_taken_57 rfl ?_
      refine z_iald iX11_taken_58 (hR.2.1 1 (by decide)) hi hj ?_
      refine z_goto iX11_taken_59 ?_
      refine z_iret iX11_taken_64 rfl ?_
      refine ⟨_, rfl, rfl, ?_⟩
      by_cases gg : zUA (0) k
      · first | exact (if_pos gg).symm | (exfalso; simp only [true_and, and_true, false_and, and_false, true_or, or_true, false_or, or_false, not_true_eq_false, not_false_eq_true, zN, zBw, zUnd, zUA, zOver, zCor, zi_eq, zi_le, zi_lt, Int32.reduceToInt, List.length_cons, List.length_nil] at * <;> omega)
      · first | exact (if_neg gg).symm | (exfalso; simp only [true_and, and_true, false_and, and_false, true_or, or_true, false_or, or_false, not_true_eq_false, not_false_eq_true, zN, zBw, zUnd, zUA, zOver, zCor, zi_eq, zi_le, zi_lt, Int32.reduceToInt, List.length_cons, List.length_nil] at * <;> omega)
  · refine z_il iX11_taken_35 rfl ?_
    refine z_il iX11_taken_36 rfl ?_
    refine z_icmp_eq iX11_taken_37 (fun h3 => ?_) (fun h3 => ?_)
    · refine z_il iX11_taken_48 rfl ?_
      refine z_il iX11_taken_49 rfl ?_
      refine z_icmp_ne iX11_taken_50 (fun h4 => ?_) (fun h4 => ?_)
      · refine z_co iX11_taken_62 ?_
        refine z_iret iX11_taken_64 rfl ?_
        refine ⟨_, rfl, rfl, ?_⟩
        by_cases gg : zUA (0) k
        · first | exact (if_pos gg).symm | (exfalso; simp only [true_and, and_true, false_and, and_false, true_or, or_true, false_or, or_false, not_true_eq_false, not_false_eq_true, zN, zBw, zUnd, zUA, zOver, zCor, zi_eq, zi_le, zi_lt, Int32.reduceToInt, List.length_cons, List.length_nil] at * <;> omega)
        · first | exact (if_neg gg).symm | (exfalso; simp only [true_and, and_true, false_and, and_false, true_or, or_true, false_or, or_false, not_true_eq_false, not_false_eq_true, zN, zBw, zUnd, zUA, zOver, zCor, zi_eq, zi_le, zi_lt, Int32.reduceToInt, List.length_cons, List.length_nil] at * <;> omega)
      · refine z_al iX11_taken_53 rfl ?_
        refine z_gf iX11_taken_54 hR.1 rfl ?_
        refine z_il iX11_taken_57 rfl ?_
        refine z_iald iX11_taken_58 (hR.2.1 1 (by decide)) hi hj ?_
        refine z_goto iX11_taken_59 ?_
        refine z_iret iX11_taken_64 rfl ?_
        refine ⟨_, rfl, rfl, ?_⟩
        by_cases gg : zUA (0) k
        · first | exact (if_pos gg).symm | (exfalso; simp only [true_and, and_true, false_and, and_false, true_or, or_true, false_or, or_false, not_true_eq_false, not_false_eq_true, zN, zBw, zUnd, zUA, zOver, zCor, zi_eq, zi_le, zi_lt, Int32.reduceToInt, List.length_cons, List.length_nil] at * <;> omega)
        · first | exact (if_neg gg).symm | (exfalso; simp only [true_and, and_true, false_and, and_false, true_or, or_true, false_or, or_false, not_true_eq_false, not_false_eq_true, zN, zBw, zUnd, zUA, zOver, zCor, zi_eq, zi_le, zi_lt, Int32.reduceToInt, List.length_cons, List.length_nil] at * <;> omega)
    · refine z_il iX11_taken_40 rfl ?_
      refine z_cs1i (fr' := fr - 1) iX11_taken_41 zmX11_over (c11_over _) (by omega) (Nat.le_of_ble_eq_true rfl) (fun x M1 hq => ?_)
      obtain ⟨rfl, rfl⟩ := hq
      refine z_is iX11_taken_44 ?_
      refine z_goto iX11_taken_45 ?_
      refine z_loc [some (zr (40, 0)), some (zi e), some (zi k), some (zi (-1))] ⟨rfl, rfl, rfl, rfl, trivial⟩ ?_
      refine (l11_tm1 hf hR e k hk hi hj).mono (fun r M' ⟨x, hr, hm, hx⟩ => ⟨x, hr, hm, hx.trans (zifc ?_)⟩)
      constructor <;> (intro gg; simp only [true_and, and_true, false_and, and_false, true_or, or_true, false_or, or_false, not_true_eq_false, not_false_eq_true, zN, zBw, zUnd, zUA, zOver, zCor, zi_eq, zi_le, zi_lt, Int32.reduceToInt, List.length_cons, List.length_nil] at * <;> omega)
set_option maxRecDepth 20000 in
set_option maxHeartbeats 4000000 in
theorem l11_t1 {fr : Nat} {M : zM} {I J : zSI} {A : zSA} {L : zSL} {K : Int64} (hf : 1 ≤ fr) (hR : RepM M I A L J K) (e k : Int32) (hk : zBw k 0 5) (hi : e.toInt = (zN e : Int)) (hj : zN e < 24) : zV zX11_taken fr 0 0 30 (zL [some (zr (40, 0)), some (zi e), some (zi k), some (zi (1))]) [] M (fun r M' => ∃ x, r = some (zi x) ∧ M' = M ∧ x = if zUA (1) k then A 1 (zN e) else -13) := by
  refine z_il iX11_taken_30 rfl ?_
  refine z_co iX11_taken_31 ?_
  refine z_icmp_eq iX11_taken_32 (fun h1 => ?_) (fun h1 => ?_)
  · refine z_il iX11_taken_48 rfl ?_
    refine z_il iX11_taken_49 rfl ?_
    refine z_icmp_ne iX11_taken_50 (fun h2 => ?_) (fun h2 => ?_)
    · refine z_co iX11_taken_62 ?_
      refine z_iret iX11_taken_64 rfl ?_
      refine ⟨_, rfl, rfl, ?_⟩
      by_cases gg : zUA (1) k
      · first | exact (if_pos gg).symm | (exfalso; simp only [true_and, and_true, false_and, and_false, true_or, or_true, false_or, or_false, not_true_eq_false, not_false_eq_true, zN, zBw, zUnd, zUA, zOver, zCor, zi_eq, zi_le, zi_lt, Int32.reduceToInt, List.length_cons, List.length_nil] at * <;> omega)
      · first | exact (if_neg gg).symm | (exfalso; simp only [true_and, and_true, false_and, and_false, true_or, or_true, false_or, or_false, not_true_eq_false, not_false_eq_true, zN, zBw, zUnd, zUA, zOver, zCor, zi_eq, zi_le, zi_lt, Int32.reduceToInt, List.length_cons, List.length_nil] at * <;> omega)
    · refine z_al iX11_taken_53 rfl ?_
      refine z_gf iX11_taken_54 hR.1 rfl ?_
      refine z_il iX11_taken_57 rfl ?_
      refine z_iald iX11_taken_58 (hR.2.1 1 (by decide)) hi hj ?_
      refine z_goto iX11_taken_59 ?_
      refine z_iret iX11_taken_64 rfl ?_
      refine ⟨_, rfl, rfl, ?_⟩
      by_cases gg : zUA (1) k
      · first | exact (if_pos gg).symm | (exfalso; simp only [true_and, and_true, false_and, and_false, true_or, or_true, false_or, or_false, not_true_eq_false, not_false_eq_true, zN, zBw, zUnd, zUA, zOver, zCor, zi_eq, zi_le, zi_lt, Int32.reduceToInt, List.length_cons, List.length_nil] at * <;> omega)
      · first | exact (if_neg gg).symm | (exfalso; simp only [true_and, and_true, false_and, and_false, true_or, or_true, false_or, or_false, not_true_eq_false, not_false_eq_true, zN, zBw, zUnd, zUA, zOver, zCor, zi_eq, zi_le, zi_lt, Int32.reduceToInt, List.length_cons, List.length_nil] at * <;> omega)
  · refine z_il iX11_taken_35 rfl ?_
    refine z_il iX11_taken_36 rfl ?_
    refine z_icmp_eq iX11_taken_37 (fun h3 => ?_) (fun h3 => ?_)
    · refine z_il iX11_taken_48 rfl ?_
      refine z_il iX11_taken_49 rfl ?_
      refine z_icmp_ne iX11_taken_50 (fun h4 => ?_) (fun h4 => ?_)
      · refine z_co iX11_taken_62 ?_
        refine z_iret iX11_taken_64 rfl ?_
        refine ⟨_, rfl, rfl, ?_⟩
        by_cases gg : zUA (1) k
        · first | exact (if_pos gg).symm | (exfalso; simp only [true_and, and_true, false_and, and_false, true_or, or_true, false_or, or_false, not_true_eq_false, not_false_eq_true, zN, zBw, zUnd, zUA, zOver, zCor, zi_eq, zi_le, zi_lt, Int32.reduceToInt, List.length_cons, List.length_nil] at * <;> omega)
        · first | exact (if_neg gg).symm | (exfalso; simp only [true_and, and_true, false_and, and_false, true_or, or_true, false_or, or_false, not_true_eq_false, not_false_eq_true, zN, zBw, zUnd, zUA, zOver, zCor, zi_eq, zi_le, zi_lt, Int32.reduceToInt, List.length_cons, List.length_nil] at * <;> omega)
      · refine z_al iX11_taken_53 rfl ?_
        refine z_gf iX11_taken_54 hR.1 rfl ?_
        refine z_il iX11_taken_57 rfl ?_
        refine z_iald iX11_taken_58 (hR.2.1 1 (by decide)) hi hj ?_
        refine z_goto iX11_taken_59 ?_
        refine z_iret iX11_taken_64 rfl ?_
        refine ⟨_, rfl, rfl, ?_⟩
        by_cases gg : zUA (1) k
        · first | exact (if_pos gg).symm | (exfalso; simp only [true_and, and_true, false_and, and_false, true_or, or_true, false_or, or_false, not_true_eq_false, not_false_eq_true, zN, zBw, zUnd, zUA, zOver, zCor, zi_eq, zi_le, zi_lt, Int32.reduceToInt, List.length_cons, List.length_nil] at * <;> omega)
        · first | exact (if_neg gg).symm | (exfalso; simp only [true_and, and_true, false_and, and_false, true_or, or_true, false_or, or_false, not_true_eq_false, not_false_eq_true, zN, zBw, zUnd, zUA, zOver, zCor, zi_eq, zi_le, zi_lt, Int32.reduceToInt, List.length_cons, List.length_nil] at * <;> omega)
    · refine z_il iX11_taken_40 rfl ?_
      refine z_cs1i (fr' := fr - 1) iX11_taken_41 zmX11_over (c11_over _) (by omega) (Nat.le_of_ble_eq_true rfl) (fun x M1 hq => ?_)
      obtain ⟨rfl, rfl⟩ := hq
      refine z_is iX11_taken_44 ?_
      refine z_goto iX11_taken_45 ?_
      refine z_loc [some (zr (40, 0)), some (zi e), some (zi k), some (zi (0))] ⟨rfl, rfl, rfl, rfl, trivial⟩ ?_
      refine (l11_t0 hf hR e k hk hi hj).mono (fun r M' ⟨x, hr, hm, hx⟩ => ⟨x, hr, hm, hx.trans (zifc ?_)⟩)
      constructor <;> (intro gg; simp only [true_and, and_true, false_and, and_false, true_or, or_true, false_or, or_false, not_true_eq_false, not_false_eq_true, zN, zBw, zUnd, zUA, zOver, zCor, zi_eq, zi_le, zi_lt, Int32.reduceToInt, List.length_cons, List.length_nil] at * <;> omega)
set_option maxRecDepth 20000 in
set_option maxHeartbeats 4000000 in
theorem l11_t3 {fr : Nat} {M : zM} {I J : zSI} {A : zSA} {L : zSL} {K : Int64} (hf : 1 ≤ fr) (hR : RepM M I A L J K) (e k : Int32) (hk : zBw k 0 5) (hi : e.toInt = (zN e : Int)) (hj : zN e < 24) : zV zX11_taken fr 0 0 30 (zL [some (zr (40, 0)), some (zi e), some (zi k), some (zi (3))]) [] M (fun r M' => ∃ x, r = some (zi x) ∧ M' = M ∧ x = if zUA (3) k then A 1 (zN e) else -13) := by
  refine z_il iX11_taken_30 rfl ?_
  refine z_co iX11_taken_31 ?_
  refine z_icmp_eq iX11_taken_32 (fun h1 => ?_) (fun h1 => ?_)
  · refine z_il iX11_taken_48 rfl ?_
    refine z_il iX11_taken_49 rfl ?_
    refine z_icmp_ne iX11_taken_50 (fun h2 => ?_) (fun h2 => ?_)
    · refine z_co iX11_taken_62 ?_
      refine z_iret iX11_taken_64 rfl ?_
      refine ⟨_, rfl, rfl, ?_⟩
      by_cases gg : zUA (3) k
      · first | exact (if_pos gg).symm | (exfalso; simp only [true_and, and_true, false_and, and_false, true_or, or_true, false_or, or_false, not_true_eq_false, not_false_eq_true, zN, zBw, zUnd, zUA, zOver, zCor, zi_eq, zi_le, zi_lt, Int32.reduceToInt, List.length_cons, List.length_nil] at * <;> omega)
      · first | exact (if_neg gg).symm | (exfalso; simp only [true_and, and_true, false_and, and_false, true_or, or_true, false_or, or_false, not_true_eq_false, not_false_eq_true, zN, zBw, zUnd, zUA, zOver, zCor, zi_eq, zi_le, zi_lt, Int32.reduceToInt, List.length_cons, List.length_nil] at * <;> omega)
    · refine z_al iX11_taken_53 rfl ?_
      refine z_gf iX11_taken_54 hR.1 rfl ?_
      refine z_il iX11_taken_57 rfl ?_
      refine z_iald iX11_taken_58 (hR.2.1 1 (by decide)) hi hj ?_
      refine z_goto iX11_taken_59 ?_
      refine z_iret iX11_taken_64 rfl ?_
      refine ⟨_, rfl, rfl, ?_⟩
      by_cases gg : zUA (3) k
      · first | exact (if_pos gg).symm | (exfalso; simp only [true_and, and_true, false_and, and_false, true_or, or_true, false_or, or_false, not_true_eq_false, not_false_eq_true, zN, zBw, zUnd, zUA, zOver, zCor, zi_eq, zi_le, zi_lt, Int32.reduceToInt, List.length_cons, List.length_nil] at * <;> omega)
      · first | exact (if_neg gg).symm | (exfalso; simp only [true_and, and_true, false_and, and_false, true_or, or_true, false_or, or_false, not_true_eq_false, not_false_eq_true, zN, zBw, zUnd, zUA, zOver, zCor, zi_eq, zi_le, zi_lt, Int32.reduceToInt, List.length_cons, List.length_nil] at * <;> omega)
  · refine z_il iX11_taken_35 rfl ?_
    refine z_il iX11_taken_36 rfl ?_
    refine z_icmp_eq iX11_taken_37 (fun h3 => ?_) (fun h3 => ?_)
    · refine z_il iX11_taken_48 rfl ?_
      refine z_il iX11_taken_49 rfl ?_
      refine z_icmp_ne iX11_taken_50 (fun h4 => ?_) (fun h4 => ?_)
      · refine z_co iX11_taken_62 ?_
        refine z_iret iX11_taken_64 rfl ?_
        refine ⟨_, rfl, rfl, ?_⟩
        by_cases gg : zUA (3) k
        · first | exact (if_pos gg).symm | (exfalso; simp only [true_and, and_true, false_and, and_false, true_or, or_true, false_or, or_false, not_true_eq_false, not_false_eq_true, zN, zBw, zUnd, zUA, zOver, zCor, zi_eq, zi_le, zi_lt, Int32.reduceToInt, List.length_cons, List.length_nil] at * <;> omega)
        · first | exact (if_neg gg).symm | (exfalso; simp only [true_and, and_true, false_and, and_false, true_or, or_true, false_or, or_false, not_true_eq_false, not_false_eq_true, zN, zBw, zUnd, zUA, zOver, zCor, zi_eq, zi_le, zi_lt, Int32.reduceToInt, List.length_cons, List.length_nil] at * <;> omega)
      · refine z_al iX11_taken_53 rfl ?_
        refine z_gf iX11_taken_54 hR.1 rfl ?_
        refine z_il iX11_taken_57 rfl ?_
        refine z_iald iX11_taken_58 (hR.2.1 1 (by decide)) hi hj ?_
        refine z_goto iX11_taken_59 ?_
        refine z_iret iX11_taken_64 rfl ?_
        refine ⟨_, rfl, rfl, ?_⟩
        by_cases gg : zUA (3) k
        · first | exact (if_pos gg).symm | (exfalso; simp only [true_and, and_true, false_and, and_false, true_or, or_true, false_or, or_false, not_true_eq_false, not_false_eq_true, zN, zBw, zUnd, zUA, zOver, zCor, zi_eq, zi_le, zi_lt, Int32.reduceToInt, List.length_cons, List.length_nil] at * <;> omega)
        · first | exact (if_neg gg).symm | (exfalso; simp only [true_and, and_true, false_and, and_false, true_or, or_true, false_or, or_false, not_true_eq_false, not_false_eq_true, zN, zBw, zUnd, zUA, zOver, zCor, zi_eq, zi_le, zi_lt, Int32.reduceToInt, List.length_cons, List.length_nil] at * <;> omega)
    · refine z_il iX11_taken_40 rfl ?_
      refine z_cs1i (fr' := fr - 1) iX11_taken_41 zmX11_over (c11_over _) (by omega) (Nat.le_of_ble_eq_true rfl) (fun x M1 hq => ?_)
      obtain ⟨rfl, rfl⟩ := hq
      refine z_is iX11_taken_44 ?_
      refine z_goto iX11_taken_45 ?_
      refine z_loc [some (zr (40, 0)), some (zi e), some (zi k), some (zi (0))] ⟨rfl, rfl, rfl, rfl, trivial⟩ ?_
      refine (l11_t0 hf hR e k hk hi hj).mono (fun r M' ⟨x, hr, hm, hx⟩ => ⟨x, hr, hm, hx.trans (zifc ?_)⟩)
      constructor <;> (intro gg; simp only [true_and, and_true, false_and, and_false, true_or, or_true, false_or, or_false, not_true_eq_false, not_false_eq_true, zN, zBw, zUnd, zUA, zOver, zCor, zi_eq, zi_le, zi_lt, Int32.reduceToInt, List.length_cons, List.length_nil] at * <;> omega)
set_option maxRecDepth 20000 in
set_option maxHeartbeats 4000000 in
theorem l11_t2 {fr : Nat} {M : zM} {I J : zSI} {A : zSA} {L : zSL} {K : Int64} (hf : 1 ≤ fr) (hR : RepM M I A L J K) (e k : Int32) (hk : zBw k 0 5) (hi : e.toInt = (zN e : Int)) (hj : zN e < 24) : zV zX11_taken fr 0 0 30 (zL [some (zr (40, 0)), some (zi e), some (zi k), some (zi (2))]) [] M (fun r M' => ∃ x, r = some (zi x) ∧ M' = M ∧ x = if zUA (2) k then A 1 (zN e) else -13) := by
  refine z_il iX11_taken_30 rfl ?_
  refine z_co iX11_taken_31 ?_
  refine z_icmp_eq iX11_taken_32 (fun h1 => ?_) (fun h1 => ?_)
  · refine z_il iX11_taken_48 rfl ?_
    refine z_il iX11_taken_49 rfl ?_
    refine z_icmp_ne iX11_taken_50 (fun h2 => ?_) (fun h2 => ?_)
    · refine z_co iX11_taken_62 ?_
      refine z_iret iX11_taken_64 rfl ?_
      refine ⟨_, rfl, rfl, ?_⟩
      by_cases gg : zUA (2) k
      · first | exact (if_pos gg).symm | (exfalso; simp only [true_and, and_true, false_and, and_false, true_or, or_true, false_or, or_false, not_true_eq_false, not_false_eq_true, zN, zBw, zUnd, zUA, zOver, zCor, zi_eq, zi_le, zi_lt, Int32.reduceToInt, List.length_cons, List.length_nil] at * <;> omega)
      · first | exact (if_neg gg).symm | (exfalso; simp only [true_and, and_true, false_and, and_false, true_or, or_true, false_or, or_false, not_true_eq_false, not_false_eq_true, zN, zBw, zUnd, zUA, zOver, zCor, zi_eq, zi_le, zi_lt, Int32.reduceToInt, List.length_cons, List.length_nil] at * <;> omega)
    · refine z_al iX11_taken_53 rfl ?_
      refine z_gf iX11_taken_54 hR.1 rfl ?_
      refine z_il iX11_taken_57 rfl ?_
      refine z_iald iX11_taken_58 (hR.2.1 1 (by decide)) hi hj ?_
      refine z_goto iX11_taken_59 ?_
      refine z_iret iX11_taken_64 rfl ?_
      refine ⟨_, rfl, rfl, ?_⟩
      by_cases gg : zUA (2) k
      · first | exact (if_pos gg).symm | (exfalso; simp only [true_and, and_true, false_and, and_false, true_or, or_true, false_or, or_false, not_true_eq_false, not_false_eq_true, zN, zBw, zUnd, zUA, zOver, zCor, zi_eq, zi_le, zi_lt, Int32.reduceToInt, List.length_cons, List.length_nil] at * <;> omega)
      · first | exact (if_neg gg).symm | (exfalso; simp only [true_and, and_true, false_and, and_false, true_or, or_true, false_or, or_false, not_true_eq_false, not_false_eq_true, zN, zBw, zUnd, zUA, zOver, zCor, zi_eq, zi_le, zi_lt, Int32.reduceToInt, List.length_cons, List.length_nil] at * <;> omega)
  · refine z_il iX11_taken_35 rfl ?_
    refine z_il iX11_taken_36 rfl ?_
    refine z_icmp_eq iX11_taken_37 (fun h3 => ?_) (fun h3 => ?_)
    · refine z_il iX11_taken_48 rfl ?_
      refine z_il iX11_taken_49 rfl ?_
      refine z_icmp_ne iX11_taken_50 (fun h4 => ?_) (fun h4 => ?_)
      · refine z_co iX11_taken_62 ?_
        refine z_iret iX11_taken_64 rfl ?_
        refine ⟨_, rfl, rfl, ?_⟩
        by_cases gg : zUA (2) k
        · first | exact (if_pos gg).symm | (exfalso; simp only [true_and, and_true, false_and, and_false, true_or, or_true, false_or, or_false, not_true_eq_false, not_false_eq_true, zN, zBw, zUnd, zUA, zOver, zCor, zi_eq, zi_le, zi_lt, Int32.reduceToInt, List.length_cons, List.length_nil] at * <;> omega)
        · first | exact (if_neg gg).symm | (exfalso; simp only [true_and, and_true, false_and, and_false, true_or, or_true, false_or, or_false, not_true_eq_false, not_false_eq_true, zN, zBw, zUnd, zUA, zOver, zCor, zi_eq, zi_le, zi_lt, Int32.reduceToInt, List.length_cons, List.length_nil] at * <;> omega)
      · refine z_al iX11_taken_53 rfl ?_
        refine z_gf iX11_taken_54 hR.1 rfl ?_
        refine z_il iX11_taken_57 rfl ?_
        refine z_iald iX11_taken_58 (hR.2.1 1 (by decide)) hi hj ?_
        refine z_goto iX11_taken_59 ?_
        refine z_iret iX11_taken_64 rfl ?_
        refine ⟨_, rfl, rfl, ?_⟩
        by_cases gg : zUA (2) k
        · first | exact (if_pos gg).symm | (exfalso; simp only [true_and, and_true, false_and, and_false, true_or, or_true, false_or, or_false, not_true_eq_false, not_false_eq_true, zN, zBw, zUnd, zUA, zOver, zCor, zi_eq, zi_le, zi_lt, Int32.reduceToInt, List.length_cons, List.length_nil] at * <;> omega)
        · first | exact (if_neg gg).symm | (exfalso; simp only [true_and, and_true, false_and, and_false, true_or, or_true, false_or, or_false, not_true_eq_false, not_false_eq_true, zN, zBw, zUnd, zUA, zOver, zCor, zi_eq, zi_le, zi_lt, Int32.reduceToInt, List.length_cons, List.length_nil] at * <;> omega)
    · refine z_il iX11_taken_40 rfl ?_
      refine z_cs1i (fr' := fr - 1) iX11_taken_41 zmX11_over (c11_over _) (by omega) (Nat.le_of_ble_eq_true rfl) (fun x M1 hq => ?_)
      obtain ⟨rfl, rfl⟩ := hq
      refine z_is iX11_taken_44 ?_
      refine z_goto iX11_taken_45 ?_
      refine z_loc [some (zr (40, 0)), some (zi e), some (zi k), some (zi (1))] ⟨rfl, rfl, rfl, rfl, trivial⟩ ?_
      refine (l11_t1 hf hR e k hk hi hj).mono (fun r M' ⟨x, hr, hm, hx⟩ => ⟨x, hr, hm, hx.trans (zifc ?_)⟩)
      constructor <;> (intro gg; simp only [true_and, and_true, false_and, and_false, true_or, or_true, false_or, or_false, not_true_eq_false, not_false_eq_true, zN, zBw, zUnd, zUA, zOver, zCor, zi_eq, zi_le, zi_lt, Int32.reduceToInt, List.length_cons, List.length_nil] at * <;> omega)
set_option maxRecDepth 20000 in
set_option maxHeartbeats 4000000 in
theorem l11_t5 {fr : Nat} {M : zM} {I J : zSI} {A : zSA} {L : zSL} {K : Int64} (hf : 1 ≤ fr) (hR : RepM M I A L J K) (e k : Int32) (hk : zBw k 0 5) (hi : e.toInt = (zN e : Int)) (hj : zN e < 24) : zV zX11_taken fr 0 0 30 (zL [some (zr (40, 0)), some (zi e), some (zi k), some (zi (5))]) [] M (fun r M' => ∃ x, r = some (zi x) ∧ M' = M ∧ x = if zUA (5) k then A 1 (zN e) else -13) := by
  refine z_il iX11_taken_30 rfl ?_
  refine z_co iX11_taken_31 ?_
  refine z_icmp_eq iX11_taken_32 (fun h1 => ?_) (fun h1 => ?_)
  · refine z_il iX11_taken_48 rfl ?_
    refine z_il iX11_taken_49 rfl ?_
    refine z_icmp_ne iX11_taken_50 (fun h2 => ?_) (fun h2 => ?_)
    · refine z_co iX11_taken_62 ?_
      refine z_iret iX11_taken_64 rfl ?_
      refine ⟨_, rfl, rfl, ?_⟩
      by_cases gg : zUA (5) k
      · first | exact (if_pos gg).symm | (exfalso; simp only [true_and, and_true, false_and, and_false, true_or, or_true, false_or, or_false, not_true_eq_false, not_false_eq_true, zN, zBw, zUnd, zUA, zOver, zCor, zi_eq, zi_le, zi_lt, Int32.reduceToInt, List.length_cons, List.length_nil] at * <;> omega)
      · first | exact (if_neg gg).symm | (exfalso; simp only [true_and, and_true, false_and, and_false, true_or, or_true, false_or, or_false, not_true_eq_false, not_false_eq_true, zN, zBw, zUnd, zUA, zOver, zCor, zi_eq, zi_le, zi_lt, Int32.reduceToInt, List.length_cons, List.length_nil] at * <;> omega)
    · refine z_al iX11_taken_53 rfl ?_
      refine z_gf iX11_taken_54 hR.1 rfl ?_
      refine z_il iX11_taken_57 rfl ?_
      refine z_iald iX11_taken_58 (hR.2.1 1 (by decide)) hi hj ?_
      refine z_goto iX11_taken_59 ?_
      refine z_iret iX11_taken_64 rfl ?_
      refine ⟨_, rfl, rfl, ?_⟩
      by_cases gg : zUA (5) k
      · first | exact (if_pos gg).symm | (exfalso; simp only [true_and, and_true, false_and, and_false, true_or, or_true, false_or, or_false, not_true_eq_false, not_false_eq_true, zN, zBw, zUnd, zUA, zOver, zCor, zi_eq, zi_le, zi_lt, Int32.reduceToInt, List.length_cons, List.length_nil] at * <;> omega)
      · first | exact (if_neg gg).symm | (exfalso; simp only [true_and, and_true, false_and, and_false, true_or, or_true, false_or, or_false, not_true_eq_false, not_false_eq_true, zN, zBw, zUnd, zUA, zOver, zCor, zi_eq, zi_le, zi_lt, Int32.reduceToInt, List.length_cons, List.length_nil] at * <;> omega)
  · refine z_il iX11_taken_35 rfl ?_
    refine z_il iX11_taken_36 rfl ?_
    refine z_icmp_eq iX11_taken_37 (fun h3 => ?_) (fun h3 => ?_)
    · refine z_il iX11_taken_48 rfl ?_
      refine z_il iX11_taken_49 rfl ?_
      refine z_icmp_ne iX11_taken_50 (fun h4 => ?_) (fun h4 => ?_)
      · refine z_co iX11_taken_62 ?_
        refine z_iret iX11_taken_64 rfl ?_
        refine ⟨_, rfl, rfl, ?_⟩
        by_cases gg : zUA (5) k
        · first | exact (if_pos gg).symm | (exfalso; simp only [true_and, and_true, false_and, and_false, true_or, or_true, false_or, or_false, not_true_eq_false, not_false_eq_true, zN, zBw, zUnd, zUA, zOver, zCor, zi_eq, zi_le, zi_lt, Int32.reduceToInt, List.length_cons, List.length_nil] at * <;> omega)
        · first | exact (if_neg gg).symm | (exfalso; simp only [true_and, and_true, false_and, and_false, true_or, or_true, false_or, or_false, not_true_eq_false, not_false_eq_true, zN, zBw, zUnd, zUA, zOver, zCor, zi_eq, zi_le, zi_lt, Int32.reduceToInt, List.length_cons, List.length_nil] at * <;> omega)
      · refine z_al iX11_taken_53 rfl ?_
        refine z_gf iX11_taken_54 hR.1 rfl ?_
        refine z_il iX11_taken_57 rfl ?_
        refine z_iald iX11_taken_58 (hR.2.1 1 (by decide)) hi hj ?_
        refine z_goto iX11_taken_59 ?_
        refine z_iret iX11_taken_64 rfl ?_
        refine ⟨_, rfl, rfl, ?_⟩
        by_cases gg : zUA (5) k
        · first | exact (if_pos gg).symm | (exfalso; simp only [true_and, and_true, false_and, and_false, true_or, or_true, false_or, or_false, not_true_eq_false, not_false_eq_true, zN, zBw, zUnd, zUA, zOver, zCor, zi_eq, zi_le, zi_lt, Int32.reduceToInt, List.length_cons, List.length_nil] at * <;> omega)
        · first | exact (if_neg gg).symm | (exfalso; simp only [true_and, and_true, false_and, and_false, true_or, or_true, false_or, or_false, not_true_eq_false, not_false_eq_true, zN, zBw, zUnd, zUA, zOver, zCor, zi_eq, zi_le, zi_lt, Int32.reduceToInt, List.length_cons, List.length_nil] at * <;> omega)
    · refine z_il iX11_taken_40 rfl ?_
      refine z_cs1i (fr' := fr - 1) iX11_taken_41 zmX11_over (c11_over _) (by omega) (Nat.le_of_ble_eq_true rfl) (fun x M1 hq => ?_)
      obtain ⟨rfl, rfl⟩ := hq
      refine z_is iX11_taken_44 ?_
      refine z_goto iX11_taken_45 ?_
      refine z_loc [some (zr (40, 0)), some (zi e), some (zi k), some (zi (1))] ⟨rfl, rfl, rfl, rfl, trivial⟩ ?_
      refine (l11_t1 hf hR e k hk hi hj).mono (fun r M' ⟨x, hr, hm, hx⟩ => ⟨x, hr, hm, hx.trans (zifc ?_)⟩)
      constructor <;> (intro gg; simp only [true_and, and_true, false_and, and_false, true_or, or_true, false_or, or_false, not_true_eq_false, not_false_eq_true, zN, zBw, zUnd, zUA, zOver, zCor, zi_eq, zi_le, zi_lt, Int32.reduceToInt, List.length_cons, List.length_nil] at * <;> omega)
set_option maxRecDepth 20000 in
set_option maxHeartbeats 4000000 in
theorem l11_t4 {fr : Nat} {M : zM} {I J : zSI} {A : zSA} {L : zSL} {K : Int64} (hf : 1 ≤ fr) (hR : RepM M I A L J K) (e k : Int32) (hk : zBw k 0 5) (hi : e.toInt = (zN e : Int)) (hj : zN e < 24) : zV zX11_taken fr 0 0 30 (zL [some (zr (40, 0)), some (zi e), some (zi k), some (zi (4))]) [] M (fun r M' => ∃ x, r = some (zi x) ∧ M' = M ∧ x = if zUA (4) k then A 1 (zN e) else -13) := by
  refine z_il iX11_taken_30 rfl ?_
  refine z_co iX11_taken_31 ?_
  refine z_icmp_eq iX11_taken_32 (fun h1 => ?_) (fun h1 => ?_)
  · refine z_il iX11_taken_48 rfl ?_
    refine z_il iX11_taken_49 rfl ?_
    refine z_icmp_ne iX11_taken_50 (fun h2 => ?_) (fun h2 => ?_)
    · refine z_co iX11_taken_62 ?_
      refine z_iret iX11_taken_64 rfl ?_
      refine ⟨_, rfl, rfl, ?_⟩
      by_cases gg : zUA (4) k
      · first | exact (if_pos gg).symm | (exfalso; simp only [true_and, and_true, false_and, and_false, true_or, or_true, false_or, or_false, not_true_eq_false, not_false_eq_true, zN, zBw, zUnd, zUA, zOver, zCor, zi_eq, zi_le, zi_lt, Int32.reduceToInt, List.length_cons, List.length_nil] at * <;> omega)
      · first | exact (if_neg gg).symm | (exfalso; simp only [true_and, and_true, false_and, and_false, true_or, or_true, false_or, or_false, not_true_eq_false, not_false_eq_true, zN, zBw, zUnd, zUA, zOver, zCor, zi_eq, zi_le, zi_lt, Int32.reduceToInt, List.length_cons, List.length_nil] at * <;> omega)
    · refine z_al iX11_taken_53 rfl ?_
      refine z_gf iX11_taken_54 hR.1 rfl ?_
      refine z_il iX11_taken_57 rfl ?_
      refine z_iald iX11_taken_58 (hR.2.1 1 (by decide)) hi hj ?_
      refine z_goto iX11_taken_59 ?_
      refine z_iret iX11_taken_64 rfl ?_
      refine ⟨_, rfl, rfl, ?_⟩
      by_cases gg : zUA (4) k
      · first | exact (if_pos gg).symm | (exfalso; simp only [true_and, and_true, false_and, and_false, true_or, or_true, false_or, or_false, not_true_eq_false, not_false_eq_true, zN, zBw, zUnd, zUA, zOver, zCor, zi_eq, zi_le, zi_lt, Int32.reduceToInt, List.length_cons, List.length_nil] at * <;> omega)
      · first | exact (if_neg gg).symm | (exfalso; simp only [true_and, and_true, false_and, and_false, true_or, or_true, false_or, or_false, not_true_eq_false, not_false_eq_true, zN, zBw, zUnd, zUA, zOver, zCor, zi_eq, zi_le, zi_lt, Int32.reduceToInt, List.length_cons, List.length_nil] at * <;> omega)
  · refine z_il iX11_taken_35 rfl ?_
    refine z_il iX11_taken_36 rfl ?_
    refine z_icmp_eq iX11_taken_37 (fun h3 => ?_) (fun h3 => ?_)
    · refine z_il iX11_taken_48 rfl ?_
      refine z_il iX11_taken_49 rfl ?_
      refine z_icmp_ne iX11_taken_50 (fun h4 => ?_) (fun h4 => ?_)
      · refine z_co iX11_taken_62 ?_
        refine z_iret iX11_taken_64 rfl ?_
        refine ⟨_, rfl, rfl, ?_⟩
        by_cases gg : zUA (4) k
        · first | exact (if_pos gg).symm | (exfalso; simp only [true_and, and_true, false_and, and_false, true_or, or_true, false_or, or_false, not_true_eq_false, not_false_eq_true, zN, zBw, zUnd, zUA, zOver, zCor, zi_eq, zi_le, zi_lt, Int32.reduceToInt, List.length_cons, List.length_nil] at * <;> omega)
        · first | exact (if_neg gg).symm | (exfalso; simp only [true_and, and_true, false_and, and_false, true_or, or_true, false_or, or_false, not_true_eq_false, not_false_eq_true, zN, zBw, zUnd, zUA, zOver, zCor, zi_eq, zi_le, zi_lt, Int32.reduceToInt, List.length_cons, List.length_nil] at * <;> omega)
      · refine z_al iX11_taken_53 rfl ?_
        refine z_gf iX11_taken_54 hR.1 rfl ?_
        refine z_il iX11_taken_57 rfl ?_
        refine z_iald iX11_taken_58 (hR.2.1 1 (by decide)) hi hj ?_
        refine z_goto iX11_taken_59 ?_
        refine z_iret iX11_taken_64 rfl ?_
        refine ⟨_, rfl, rfl, ?_⟩
        by_cases gg : zUA (4) k
        · first | exact (if_pos gg).symm | (exfalso; simp only [true_and, and_true, false_and, and_false, true_or, or_true, false_or, or_false, not_true_eq_false, not_false_eq_true, zN, zBw, zUnd, zUA, zOver, zCor, zi_eq, zi_le, zi_lt, Int32.reduceToInt, List.length_cons, List.length_nil] at * <;> omega)
        · first | exact (if_neg gg).symm | (exfalso; simp only [true_and, and_true, false_and, and_false, true_or, or_true, false_or, or_false, not_true_eq_false, not_false_eq_true, zN, zBw, zUnd, zUA, zOver, zCor, zi_eq, zi_le, zi_lt, Int32.reduceToInt, List.length_cons, List.length_nil] at * <;> omega)
    · refine z_il iX11_taken_40 rfl ?_
      refine z_cs1i (fr' := fr - 1) iX11_taken_41 zmX11_over (c11_over _) (by omega) (Nat.le_of_ble_eq_true rfl) (fun x M1 hq => ?_)
      obtain ⟨rfl, rfl⟩ := hq
      refine z_is iX11_taken_44 ?_
      refine z_goto iX11_taken_45 ?_
      refine z_loc [some (zr (40, 0)), some (zi e), some (zi k), some (zi (3))] ⟨rfl, rfl, rfl, rfl, trivial⟩ ?_
      refine (l11_t3 hf hR e k hk hi hj).mono (fun r M' ⟨x, hr, hm, hx⟩ => ⟨x, hr, hm, hx.trans (zifc ?_)⟩)
      constructor <;> (intro gg; simp only [true_and, and_true, false_and, and_false, true_or, or_true, false_or, or_false, not_true_eq_false, not_false_eq_true, zN, zBw, zUnd, zUA, zOver, zCor, zi_eq, zi_le, zi_lt, Int32.reduceToInt, List.length_cons, List.length_nil] at * <;> omega)
set_option maxRecDepth 20000 in
set_option maxHeartbeats 4000000 in
theorem pm_taken {fr : Nat} {M : zM} {I J : zSI} {A : zSA} {L : zSL} {K : Int64} (hf : 3 ≤ fr) (hR : RepM M I A L J K) (hV : Val I A L) (e : Int32) (k : Int32) : zCi zX11_taken fr 0 0 [zr (40, 0), zi e, zi k] M (fun x M' => zEM M x (sp_taken I A L e k) M') := by
  refine z_enter (L := [some (zr (40, 0)), some (zi e), some (zi k)]) rfl (by decide +kernel) (Nat.le_of_ble_eq_true rfl) ?_
  refine z_il iX11_taken_0 rfl ?_
  refine z_co iX11_taken_1 ?_
  refine z_co iX11_taken_2 ?_
  refine z_cs3i (fr' := fr - 1) iX11_taken_3 zmX11_in (c11_in _ _ _) (by omega) (Nat.le_of_ble_eq_true rfl) (fun x M1 hq => ?_)
  obtain ⟨rfl, rfl⟩ := hq
  refine z_ib_ne iX11_taken_6 (fun h1 => ?_) (fun h1 => ?_)
  · refine z_al iX11_taken_12 rfl ?_
    refine z_il iX11_taken_13 rfl ?_
    refine z_cv1i (fr' := fr - 1) iX11_taken_14 zmX11_isEdge hR.1 (c11_isEdge (by omega) hR _) (by omega) (Nat.le_of_ble_eq_true rfl) (fun x M1 hq => ?_)
    obtain ⟨rfl, rfl⟩ := hq
    refine z_ib_ne iX11_taken_17 (fun h2 => ?_) (fun h2 => ?_)
    · refine z_al iX11_taken_23 rfl ?_
      refine z_gf iX11_taken_24 hR.1 rfl ?_
      refine z_il iX11_taken_27 rfl ?_
      refine z_iald iX11_taken_28 (hR.2.1 0 (by decide)) (zIdx h2 hV.1.1 (by decide)).1 (zLt (zIdx h2 hV.1.1 (by decide)).2.2) ?_
      refine z_is iX11_taken_29 ?_
      have h6 : A 0 (zN e) = 0 ∨ A 0 (zN e) = 1 ∨ A 0 (zN e) = 2 ∨ A 0 (zN e) = 3 ∨ A 0 (zN e) = 4 ∨ A 0 (zN e) = 5 := by
        have g12 : zRg (A 0 (zN e)) 0 5 := (hV.2.1 _ (zIdx h2 hV.1.1 (by decide)).2.1).1
        obtain ⟨g1, g2⟩ := g12
        simp only [zi_eq, Int32.reduceToInt]
        omega
      refine z_loc [some (zr (40, 0)), some (zi e), some (zi k), some (zi (A 0 (zN e)))] ⟨rfl, rfl, rfl, rfl, trivial⟩ ?_
      rcases h6 with g | g | g | g | g | g
      · rw [g]
        refine (l11_t0 (by omega) hR e k h1 (zIdx h2 hV.1.1 (by decide)).1 (zLt (zIdx h2 hV.1.1 (by decide)).2.2)).mono (fun r M' ⟨x, hr, hm, hx⟩ => ⟨x, hr, ?_⟩)
        subst hm
        refine zM_rd hR ?_
        unfold sp_taken
        have hy : x = if zUnd 0 k then A 1 (zN e) else -13 := hx.trans (zifc ⟨fun q => q.2, fun q => ⟨by decide, q⟩⟩)
        rw [if_neg (fun q => q h1), if_neg (fun q => q h2), g, hy]
      · rw [g]
        refine (l11_t1 (by omega) hR e k h1 (zIdx h2 hV.1.1 (by decide)).1 (zLt (zIdx h2 hV.1.1 (by decide)).2.2)).mono (fun r M' ⟨x, hr, hm, hx⟩ => ⟨x, hr, ?_⟩)
        subst hm
        refine zM_rd hR ?_
        unfold sp_taken
        have hy : x = if zUnd 1 k then A 1 (zN e) else -13 := hx.trans (zifc ⟨fun q => q.2, fun q => ⟨by decide, q⟩⟩)
        rw [if_neg (fun q => q h1), if_neg (fun q => q h2), g, hy]
      · rw [g]
        refine (l11_t2 (by omega) hR e k h1 (zIdx h2 hV.1.1 (by decide)).1 (zLt (zIdx h2 hV.1.1 (by decide)).2.2)).mono (fun r M' ⟨x, hr, hm, hx⟩ => ⟨x, hr, ?_⟩)
        subst hm
        refine zM_rd hR ?_
        unfold sp_taken
        have hy : x = if zUnd 2 k then A 1 (zN e) else -13 := hx.trans (zifc ⟨fun q => q.2, fun q => ⟨by decide, q⟩⟩)
        rw [if_neg (fun q => q h1), if_neg (fun q => q h2), g, hy]
      · rw [g]
        refine (l11_t3 (by omega) hR e k h1 (zIdx h2 hV.1.1 (by decide)).1 (zLt (zIdx h2 hV.1.1 (by decide)).2.2)).mono (fun r M' ⟨x, hr, hm, hx⟩ => ⟨x, hr, ?_⟩)
        subst hm
        refine zM_rd hR ?_
        unfold sp_taken
        have hy : x = if zUnd 3 k then A 1 (zN e) else -13 := hx.trans (zifc ⟨fun q => q.2, fun q => ⟨by decide, q⟩⟩)
        rw [if_neg (fun q => q h1), if_neg (fun q => q h2), g, hy]
      · rw [g]
        refine (l11_t4 (by omega) hR e k h1 (zIdx h2 hV.1.1 (by decide)).1 (zLt (zIdx h2 hV.1.1 (by decide)).2.2)).mono (fun r M' ⟨x, hr, hm, hx⟩ => ⟨x, hr, ?_⟩)
        subst hm
        refine zM_rd hR ?_
        unfold sp_taken
        have hy : x = if zUnd 4 k then A 1 (zN e) else -13 := hx.trans (zifc ⟨fun q => q.2, fun q => ⟨by decide, q⟩⟩)
        rw [if_neg (fun q => q h1), if_neg (fun q => q h2), g, hy]
      · rw [g]
        refine (l11_t5 (by omega) hR e k h1 (zIdx h2 hV.1.1 (by decide)).1 (zLt (zIdx h2 hV.1.1 (by decide)).2.2)).mono (fun r M' ⟨x, hr, hm, hx⟩ => ⟨x, hr, ?_⟩)
        subst hm
        refine zM_rd hR ?_
        unfold sp_taken
        have hy : x = if zUnd 5 k then A 1 (zN e) else -13 := hx.trans (zifc ⟨fun q => q.2, fun q => ⟨by decide, q⟩⟩)
        rw [if_neg (fun q => q h1), if_neg (fun q => q h2), g, hy]
    · refine z_co iX11_taken_20 ?_
      refine z_iret iX11_taken_22 rfl ?_
      refine ⟨_, rfl, ?_⟩
      unfold sp_taken
      repeat' split
      all_goals first | exact zEM.rd hR | (exfalso; simp only [true_and, and_true, false_and, and_false, true_or, or_true, false_or, or_false, not_true_eq_false, not_false_eq_true, zN, zBw, zUnd, zCor, zi_eq, zi_le, zi_lt, Int32.reduceToInt, List.length_cons, List.length_nil] at *; omega)
  · refine z_co iX11_taken_9 ?_
    refine z_iret iX11_taken_11 rfl ?_
    refine ⟨_, rfl, ?_⟩
    unfold sp_taken
    repeat' split
    all_goals first | exact zEM.rd hR | (exfalso; simp only [true_and, and_true, false_and, and_false, true_or, or_true, false_or, or_false, not_true_eq_false, not_false_eq_true, zN, zBw, zUnd, zCor, zi_eq, zi_le, zi_lt, Int32.reduceToInt, List.length_cons, List.length_nil] at *; omega)
set_option maxRecDepth 20000 in
set_option maxHeartbeats 4000000 in
theorem px_taken {TR : zTR} {JR : zJR} {fr : Nat} {M : zM} {I : zSI} {A : zSA} {L : zSL} (hf : 4 ≤ fr) (hX : RepX TR JR M I A L) (hV : Val I A L) (e : Int32) (k : Int32) : zCi zX10_taken fr 0 0 [zr (2, 0), zi e, zi k] M (fun x M' => zEX TR JR M x (sp_taken I A L e k) M') := by
  refine z_enter (L := [some (zr (2, 0)), some (zi e), some (zi k)]) rfl (by decide +kernel) (Nat.le_of_ble_eq_true rfl) ?_
  refine z_il iX10_taken_0 rfl ?_
  refine z_co iX10_taken_1 ?_
  refine z_co iX10_taken_2 ?_
  refine z_cs3i (fr' := fr - 1) iX10_taken_3 zmX10_within (c10_within _ _ _) (by omega) (Nat.le_of_ble_eq_true rfl) (fun x M1 hq => ?_)
  obtain ⟨rfl, rfl⟩ := hq
  refine z_ib_ne iX10_taken_6 (fun h1 => ?_) (fun h1 => ?_)
  · refine z_al iX10_taken_12 rfl ?_
    refine z_il iX10_taken_13 rfl ?_
    refine z_cv1a (fr' := fr - 1) iX10_taken_14 zmX10_edgeOf hX.1.1 (c10_edgeOf (by omega) hX hV _) (by omega) (Nat.le_of_ble_eq_true rfl) (fun x M1 hq => ?_)
    obtain ⟨rfl, rfl⟩ := hq
    refine z_as iX10_taken_17 ?_
    refine z_alo iX10_taken_18 rfl ?_
    refine z_ifnonnull iX10_taken_19 (fun x2 h2 => ?_) (fun h2 => ?_)
    · rw [h2]
      obtain ⟨qh2, rfl⟩ := xo_s h2
      have hedge := (hX.2.1.1 _ (zIdx qh2 hV.1.1 (by decide)).2.1).1
      refine z_al iX10_taken_25 rfl ?_
      refine z_gf iX10_taken_26 hedge rfl ?_
      refine z_il iX10_taken_29 rfl ?_
      refine z_cs2i (fr' := fr - 1) iX10_taken_30 zmX10_isUnder (c10_isUnder _ _) (by omega) (Nat.le_of_ble_eq_true rfl) (fun x M1 hq => ?_)
      obtain ⟨rfl, rfl⟩ := hq
      refine z_ib_eq iX10_taken_33 (fun h3 => ?_) (fun h3 => ?_)
      · refine z_co iX10_taken_43 ?_
        refine z_iret iX10_taken_45 rfl ?_
        try (have hn := xo_n (by assumption : xo _ _ _ = none))
        refine ⟨_, rfl, ?_⟩
        unfold sp_taken
        repeat' split
        all_goals first | exact zEX.rd hX | (exfalso; simp only [true_and, and_true, false_and, and_false, true_or, or_true, false_or, or_false, not_true_eq_false, not_false_eq_true, zN, zBw, zUnd, zCor, zi_eq, zi_le, zi_lt, Int32.reduceToInt, List.length_cons, List.length_nil] at *; omega)
      · refine z_al iX10_taken_36 rfl ?_
        refine z_gf iX10_taken_37 hedge rfl ?_
        refine z_goto iX10_taken_40 ?_
        refine z_iret iX10_taken_45 rfl ?_
        try (have hn := xo_n (by assumption : xo _ _ _ = none))
        refine ⟨_, rfl, ?_⟩
        unfold sp_taken
        repeat' split
        all_goals first | exact zEX.rd hX | (exfalso; simp only [true_and, and_true, false_and, and_false, true_or, or_true, false_or, or_false, not_true_eq_false, not_false_eq_true, zN, zBw, zUnd, zCor, zi_eq, zi_le, zi_lt, Int32.reduceToInt, List.length_cons, List.length_nil] at *; omega)
    · refine z_co iX10_taken_22 ?_
      refine z_iret iX10_taken_24 rfl ?_
      try (have hn := xo_n (by assumption : xo _ _ _ = none))
      refine ⟨_, rfl, ?_⟩
      unfold sp_taken
      repeat' split
      all_goals first | exact zEX.rd hX | (exfalso; simp only [true_and, and_true, false_and, and_false, true_or, or_true, false_or, or_false, not_true_eq_false, not_false_eq_true, zN, zBw, zUnd, zCor, zi_eq, zi_le, zi_lt, Int32.reduceToInt, List.length_cons, List.length_nil] at *; omega)
  · refine z_co iX10_taken_9 ?_
    refine z_iret iX10_taken_11 rfl ?_
    try (have hn := xo_n (by assumption : xo _ _ _ = none))
    refine ⟨_, rfl, ?_⟩
    unfold sp_taken
    repeat' split
    all_goals first | exact zEX.rd hX | (exfalso; simp only [true_and, and_true, false_and, and_false, true_or, or_true, false_or, or_false, not_true_eq_false, not_false_eq_true, zN, zBw, zUnd, zCor, zi_eq, zi_le, zi_lt, Int32.reduceToInt, List.length_cons, List.length_nil] at *; omega)
theorem Val.I6 {I : zSI} {A : zSA} {L : zSL} {t : Int32} (h : Val I A L) (ht : zBw t 0 (I 5 - 1)) : Val (zup I 6 t) A L := by
  obtain ⟨h1, h2⟩ := h
  refine ⟨⟨h1.1, h1.2.1, h1.2.2.1, ?_, h1.2.2.2.2⟩, h2⟩
  obtain ⟨g1, g2⟩ := h1.2.2.1
  have e1 := zIdx (N := 6) ht ⟨by omega, g2⟩ (by decide)
  show 0 ≤ t.toInt ∧ t.toInt < (I 5).toInt
  omega
theorem zp_force {TR : zTR} {JR : zJR} (t : Int32) : zPI (zInv TR JR) zX10_force zX11_force 0 0 [zi t] :=
  zPI_of (fun I A L => sp_force I A L t) (fun _ _ _ _ _ hf hX hV => px_force (by omega) hX hV t) (fun _ _ _ _ _ _ _ hf hR hV => pm_force (by omega) hR hV t) (fun I A L hV => by
    show Val (sp_force I A L t).2.1 (sp_force I A L t).2.2.1 (sp_force I A L t).2.2.2
    unfold sp_force
    by_cases c1 : ¬ zBw t 0 (I 5 - 1)
    · rw [if_pos c1]; exact hV
    · rw [if_neg c1]; exact hV.I6 (Decidable.of_not_not c1))
theorem zp_taken {TR : zTR} {JR : zJR} (e k : Int32) : zPI (zInv TR JR) zX10_taken zX11_taken 0 0 [zi e, zi k] :=
  zPI_of (fun I A L => sp_taken I A L e k) (fun _ _ _ _ _ hf hX hV => px_taken (by omega) hX hV e k) (fun _ _ _ _ _ _ _ hf hR hV => pm_taken (by omega) hR hV e k) (fun I A L hV => hV)
