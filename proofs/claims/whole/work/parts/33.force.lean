theorem RepX.obj {TR : zTR} {JR : zJR} {M : zM} {I : zSI} {A : zSA} {L : zSL} (h : RepX TR JR M I A L) (v : Int32) {fs : List zVal} (hfs : fs = xObj (zup I 6 v)) : RepX TR JR (zupd M (2, 0) (.inr (10, fs))) (zup I 6 v) A L := by
  subst hfs
  obtain ⟨h1, h2, h3, h4, h5, h6, h7, h8, h9⟩ := h
  exact ⟨⟨zupd_s, (zupd_k (by decide : (3 : Nat) ≠ 2)).trans h1.2.1, (zupd_k (by decide : (4 : Nat) ≠ 2)).trans h1.2.2.1, (zupd_k (by decide : (5 : Nat) ≠ 2)).trans h1.2.2.2.1, (zupd_k (by decide : (6 : Nat) ≠ 2)).trans h1.2.2.2.2.1, (zupd_k (by decide : (7 : Nat) ≠ 2)).trans h1.2.2.2.2.2.1, (zupd_k (by decide : (8 : Nat) ≠ 2)).trans h1.2.2.2.2.2.2⟩,
    xEd.fr (I := zup I 6 v) h2 (fun e => zupd_k (by decide : (28 : Nat) ≠ 2)) (fun e => zupd_k (by decide : (29 : Nat) ≠ 2)), xTo.fr (I := zup I 6 v) h3 (fun e => zupd_k (by decide : (30 : Nat) ≠ 2)), xMa.fr (I := zup I 6 v) h4 (fun e => zupd_k (by decide : (31 : Nat) ≠ 2)) (fun e => zupd_k (by decide : (32 : Nat) ≠ 2)), h5.fr (fun e => zupd_k (by decide : (26 : Nat) ≠ 2)) (fun e => zupd_k (by decide : (27 : Nat) ≠ 2)), xTx.fr (I := zup I 6 v) h6 (fun e => zupd_k (by decide : (23 : Nat) ≠ 2)) (fun e => zupd_k (by decide : (24 : Nat) ≠ 2)) (fun e => zupd_k (by decide : (25 : Nat) ≠ 2)), xTa.fr (I := zup I 6 v) h7 (zupd_k (by decide : (10 : Nat) ≠ 2)) (zupd_k (by decide : (19 : Nat) ≠ 2)) (zupd_k (by decide : (20 : Nat) ≠ 2)) (zupd_k (by decide : (21 : Nat) ≠ 2)), h8.fr (zupd_k (by decide : (11 : Nat) ≠ 2)) (zupd_k (by decide : (12 : Nat) ≠ 2)) (zupd_k (by decide : (22 : Nat) ≠ 2)) (zupd_k (by decide : (13 : Nat) ≠ 2)), xJo.fr (I := zup I 6 v) h9 (zupd_k (by decide : (9 : Nat) ≠ 2)) (zupd_k (by decide : (14 : Nat) ≠ 2)) (zupd_k (by decide : (15 : Nat) ≠ 2)) (zupd_k (by decide : (16 : Nat) ≠ 2)) (zupd_k (by decide : (17 : Nat) ≠ 2)) (fun e => zupd_k (by decide : (18 : Nat) ≠ 2))⟩
def sp_force (I : zSI) (A : zSA) (L : zSL) (t : Int32) : zRes := if ¬ zBw t 0 (I 5 - 1) then (-2, I, A, L) else (I 6, zup I 6 t, A, L)
abbrev zUA (a k : Int32) : Prop := ¬ a = -1 ∧ zUnd a k
def sp_taken (I : zSI) (A : zSA) (L : zSL) (e k : Int32) : zRes := (if ¬ zBw k 0 5 then -2 else if ¬ zBw e 0 (I 0 - 1) then -11 else if zUnd (A 0 (zN e)) k then A 1 (zN e) else -13, I, A, L)
def zOver (a : Int32) : Int32 := if a = 0 then -1 else if a = 2 ∨ a = 5 then 1 else if a = 4 then 3 else 0
set_option maxRecDepth 20000 in
set_option maxHeartbeats 4000000 in
theorem pm_force {fr : Nat} {M : zM} {I J : zSI} {A : zSA} {L : zSL} {K : Int64} (hf : 3 ≤ fr) (hR : RepM M I A L J K) (hV : Val I A L) (t : Int32) : zCi zX11_force fr 0 0 [zr (40, 0), zi t] M (fun x M' => zEM M x (sp_force I A L t) M') := by
  refine z_enter (L := [some (zr (40, 0)), some (zi t)]) rfl (by decide +kernel) (Nat.le_of_ble_eq_true rfl) ?_
  refine z_il iX11_force_0 rfl ?_
  refine z_co iX11_force_1 ?_
  refine z_al iX11_force_2 rfl ?_
  refine z_gf iX11_force_3 hR.1 rfl ?_
  refine z_co iX11_force_6 ?_
  refine z_isub iX11_force_7 ?_
  refine z_cs3i (fr' := fr - 1) iX11_force_8 zmX11_in (c11_in _ _ _) (by omega) (Nat.le_of_ble_eq_true rfl) (fun x M1 hq => ?_)
  obtain ⟨rfl, rfl⟩ := hq
  refine z_ib_ne iX11_force_11 (fun h1 => ?_) (fun h1 => ?_)
  · refine z_al iX11_force_17 rfl ?_
    refine z_gf iX11_force_18 hR.1 rfl ?_
    refine z_is iX11_force_21 ?_
    refine z_al iX11_force_22 rfl ?_
    refine z_il iX11_force_23 rfl ?_
    refine z_pf iX11_force_24 hR.1 (by decide) (Nat.le_of_ble_eq_true rfl) trivial ?_
    refine z_il iX11_force_27 rfl ?_
    refine z_iret iX11_force_28 rfl ?_
    refine ⟨_, rfl, ?_⟩
    unfold sp_force
    repeat' split
    all_goals first | exact zEM.rd hR | exact zEM.wr (hR.obj (I' := zup I 6 t) (J' := J) (K' := K) rfl) (zfr zfr_nil (by decide)) | (exfalso; simp only [true_and, and_true, false_and, and_false, true_or, or_true, false_or, or_false, not_true_eq_false, not_false_eq_true, zN, zBw, zUnd, zCor, zi_eq, zi_le, zi_lt, Int32.reduceToInt, List.length_cons, List.length_nil] at *; omega)
  · refine z_co iX11_force_14 ?_
    refine z_iret iX11_force_16 rfl ?_
    refine ⟨_, rfl, ?_⟩
    unfold sp_force
    repeat' split
    all_goals first | exact zEM.rd hR | (exfalso; simp only [true_and, and_true, false_and, and_false, true_or, or_true, false_or, or_false, not_true_eq_false, not_false_eq_true, zN, zBw, zUnd, zCor, zi_eq, zi_le, zi_lt, Int32.reduceToInt, List.length_cons, List.length_nil] at *; omega)
set_option maxRecDepth 20000 in
set_option maxHeartbeats 4000000 in
theorem px_force {TR : zTR} {JR : zJR} {fr : Nat} {M : zM} {I : zSI} {A : zSA} {L : zSL} (hf : 4 ≤ fr) (hX : RepX TR JR M I A L) (hV : Val I A L) (t : Int32) : zCi zX10_force fr 0 0 [zr (2, 0), zi t] M (fun x M' => zEX TR JR M x (sp_force I A L t) M') := by
  refine z_enter (L := [some (zr (2, 0)), some (zi t)]) rfl (by decide +kernel) (Nat.le_of_ble_eq_true rfl) ?_
  refine z_il iX10_force_0 rfl ?_
  refine z_co iX10_force_1 ?_
  refine z_al iX10_force_2 rfl ?_
  refine z_gf iX10_force_3 hX.1.1 rfl ?_
  refine z_co iX10_force_6 ?_
  refine z_isub iX10_force_7 ?_
  refine z_cs3i (fr' := fr - 1) iX10_force_8 zmX10_within (c10_within _ _ _) (by omega) (Nat.le_of_ble_eq_true rfl) (fun x M1 hq => ?_)
  obtain ⟨rfl, rfl⟩ := hq
  refine z_ib_ne iX10_force_11 (fun h1 => ?_) (fun h1 => ?_)
  · refine z_al iX10_force_17 rfl ?_
    refine z_gf iX10_force_18 hX.1.1 rfl ?_
    refine z_is iX10_force_21 ?_
    refine z_al iX10_force_22 rfl ?_
    refine z_il iX10_force_23 rfl ?_
    refine z_pf iX10_force_24 hX.1.1 (by decide) (Nat.le_of_ble_eq_true rfl) trivial ?_
    refine z_il iX10_force_27 rfl ?_
    refine z_iret iX10_force_28 rfl ?_
    refine ⟨_, rfl, ?_⟩
    unfold sp_force
    repeat' split
    all_goals first | exact zEX.rd hX | exact zEX.wr (hX.obj t rfl) (zfx zfx_nil (by decide)) | (exfalso; simp only [true_and, and_true, false_and, and_false, true_or, or_true, false_or, or_false, not_true_eq_false, not_false_eq_true, zN, zBw, zUnd, zCor, zi_eq, zi_le, zi_lt, Int32.reduceToInt, List.length_cons, List.length_nil] at *; omega)
  · refine z_co iX10_force_14 ?_
    refine z_iret iX10_force_16 rfl ?_
    refine ⟨_, rfl, ?_⟩
    unfold sp_force
    repeat' split
    all_goals first | exact zEX.rd hX | (exfalso; simp only [true_and, and_true, false_and, and_false, true_or, or_true, false_or, or_false, not_true_eq_false, not_false_eq_true, zN, zBw, zUnd, zCor, zi_eq, zi_le, zi_lt, Int32.reduceToInt, List.length_cons, List.length_nil] at *; omega)
set_option maxRecDepth 20000 in
set_option maxHeartbeats 4000000 in
theorem c11_over {fr : Nat} {M : zM} (a : Int32) : zCi zX11_over fr 0 0 [zi a] M (fun x M' => M' = M ∧ x = zOver a) := by
  refine z_enter (L := [some (zi a)]) rfl (by decide +kernel) (Nat.le_of_ble_eq_true rfl) ?_
  refine z_il iX11_over_0 rfl ?_
  refine z_if_ne iX11_over_1 (fun h1 => ?_) (fun h1 => ?_)
  · refine z_il iX11_over_8 rfl ?_
    refine z_co iX11_over_9 ?_
    refine z_icmp_eq iX11_over_10 (fun h2 => ?_) (fun h2 => ?_)
    · refine z_co iX11_over_18 ?_
      refine z_goto iX11_over_19 ?_
      refine z_iret iX11_over_32 rfl ?_
      refine ⟨_, rfl, rfl, ?_⟩
      unfold zOver
      repeat' split
      all_goals first | rfl | (exfalso; simp only [true_and, and_true, false_and, and_false, true_or, or_true, false_or, or_false, not_true_eq_false, not_false_eq_true, zN, zBw, zUnd, zCor, zi_eq, zi_le, zi_lt, Int32.reduceToInt, List.length_cons, List.length_nil] at * <;> omega)
    · refine z_il iX11_over_13 rfl ?_
      refine z_co iX11_over_14 ?_
      refine z_icmp_ne iX11_over_15 (fun h3 => ?_) (fun h3 => ?_)
      · refine z_il iX11_over_22 rfl ?_
        refine z_co iX11_over_23 ?_
        refine z_icmp_ne iX11_over_24 (fun h4 => ?_) (fun h4 => ?_)
        · refine z_co iX11_over_31 ?_
          refine z_iret iX11_over_32 rfl ?_
          refine ⟨_, rfl, rfl, ?_⟩
          unfold zOver
          repeat' split
          all_goals first | rfl | (exfalso; simp only [true_and, and_true, false_and, and_false, true_or, or_true, false_or, or_false, not_true_eq_false, not_false_eq_true, zN, zBw, zUnd, zCor, zi_eq, zi_le, zi_lt, Int32.reduceToInt, List.length_cons, List.length_nil] at * <;> omega)
        · refine z_co iX11_over_27 ?_
          refine z_goto iX11_over_28 ?_
          refine z_iret iX11_over_32 rfl ?_
          refine ⟨_, rfl, rfl, ?_⟩
          unfold zOver
          repeat' split
          all_goals first | rfl | (exfalso; simp only [true_and, and_true, false_and, and_false, true_or, or_true, false_or, or_false, not_true_eq_false, not_false_eq_true, zN, zBw, zUnd, zCor, zi_eq, zi_le, zi_lt, Int32.reduceToInt, List.length_cons, List.length_nil] at * <;> omega)
      · refine z_co iX11_over_18 ?_
        refine z_goto iX11_over_19 ?_
        refine z_iret iX11_over_32 rfl ?_
        refine ⟨_, rfl, rfl, ?_⟩
        unfold zOver
        repeat' split
        all_goals first | rfl | (exfalso; simp only [true_and, and_true, false_and, and_false, true_or, or_true, false_or, or_false, not_true_eq_false, not_false_eq_true, zN, zBw, zUnd, zCor, zi_eq, zi_le, zi_lt, Int32.reduceToInt, List.length_cons, List.length_nil] at * <;> omega)
  · refine z_co iX11_over_4 ?_
    refine z_goto iX11_over_5 ?_
    refine z_iret iX11_over_32 rfl ?_
    refine ⟨_, rfl, rfl, ?_⟩
    unfold zOver
    repeat' split
    all_goals first | rfl | (exfalso; simp only [true_and, and_true, false_and, and_false, true_or, or_true, false_or, or_false, not_true_eq_false, not_false_eq_true, zN, zBw, zUnd, zCor, zi_eq, zi_le, zi_lt, Int32.reduceToInt, List.length_cons, List.length_nil] at * <;> omega)
set_option maxRecDepth 20000 in
set_option maxHeartbeats 4000000 in
theorem l11_tm1 {fr : Nat} {M : zM} {I J : zSI} {A : zSA} {L : zSL} {K : Int64} (hR : RepM M I A L J K) (e k : Int32) (hk : zBw k 0 5) (hi : e.toInt = (zN e : Int)) (hj : zN e < 24) : zV zX11_taken fr 0 0 30 (zL [some (zr (40, 0)), some (zi e), some (zi k), some (zi (-1))]) [] M (fun r M' => ∃ x, r = some (zi x) ∧ M' = M ∧ x = if zUA (-1) k then A 1 (zN e) else -13) := by
  refine z_il iX11_taken_30 rfl ?_
  refine z_co iX11_taken_31 ?_
  refine z_icmp_eq iX11_taken_32 (fun h1 => ?_) (fun h1 => ?_)
  · refine z_il iX11_taken_48 rfl ?_
    refine z_il iX11_taken_49 rfl ?_
    refine z_icmp_ne iX11_taken_50 (fun h2 => ?_) (fun h2 => ?_)
    · refine z_co iX11_taken_62 ?_
      refine z_iret iX11_taken_64 rfl ?_
      exact ⟨_, rfl, rfl, by first | rw [if_pos (by simp only [true_and, and_true, false_and, and_false, true_or, or_true, false_or, or_false, not_true_eq_false, not_false_eq_true, zN, zBw, zUnd, zCor, zi_eq, zi_le, zi_lt, Int32.reduceToInt, List.length_cons, List.length_nil] at * <;> omega)] | rw [if_neg (by simp only [true_and, and_true, false_and, and_false, true_or, or_true, false_or, or_false, not_true_eq_false, not_false_eq_true, zN, zBw, zUnd, zCor, zi_eq, zi_le, zi_lt, Int32.reduceToInt, List.length_cons, List.length_nil] at * <;> omega)] | (exfalso; simp only [true_and, and_true, false_and, and_false, true_or, or_true, false_or, or_false, not_true_eq_false, not_false_eq_true, zN, zBw, zUnd, zCor, zi_eq, zi_le, zi_lt, Int32.reduceToInt, List.length_cons, List.length_nil] at * <;> omega)⟩
    · refine z_al iX11_taken_53 rfl ?_
      refine z_gf iX11_taken_54 hR.1 rfl ?_
      refine z_il iX11_taken_57 rfl ?_
      refine z_iald iX11_taken_58 (hR.2.1 1 (by decide)) hi hj ?_
      refine z_goto iX11_taken_59 ?_
      refine z_iret iX11_taken_64 rfl ?_
      exact ⟨_, rfl, rfl, by first | rw [if_pos (by simp only [true_and, and_true, false_and, and_false, true_or, or_true, false_or, or_false, not_true_eq_false, not_false_eq_true, zN, zBw, zUnd, zCor, zi_eq, zi_le, zi_lt, Int32.reduceToInt, List.length_cons, List.length_nil] at * <;> omega)] | rw [if_neg (by simp only [true_and, and_true, false_and, and_false, true_or, or_true, false_or, or_false, not_true_eq_false, not_false_eq_true, zN, zBw, zUnd, zCor, zi_eq, zi_le, zi_lt, Int32.reduceToInt, List.length_cons, List.length_nil] at * <;> omega)] | (exfalso; simp only [true_and, and_true, false_and, and_false, true_or, or_true, false_or, or_false, not_true_eq_false, not_false_eq_true, zN, zBw, zUnd, zCor, zi_eq, zi_le, zi_lt, Int32.reduceToInt, List.length_cons, List.length_nil] at * <;> omega)⟩
  · refine z_il iX11_taken_35 rfl ?_
    refine z_il iX11_taken_36 rfl ?_
    refine z_icmp_eq iX11_taken_37 (fun h3 => ?_) (fun h3 => ?_)
    · refine z_il iX11_taken_48 rfl ?_
      refine z_il iX11_taken_49 rfl ?_
      refine z_icmp_ne iX11_taken_50 (fun h4 => ?_) (fun h4 => ?_)
      · refine z_co iX11_taken_62 ?_
        refine z_iret iX11_taken_64 rfl ?_
        exact ⟨_, rfl, rfl, by first | rw [if_pos (by simp only [true_and, and_true, false_and, and_false, true_or, or_true, false_or, or_false, not_true_eq_false, not_false_eq_true, zN, zBw, zUnd, zCor, zi_eq, zi_le, zi_lt, Int32.reduceToInt, List.length_cons, List.length_nil] at * <;> omega)] | rw [if_neg (by simp only [true_and, and_true, false_and, and_false, true_or, or_true, false_or, or_false, not_true_eq_false, not_false_eq_true, zN, zBw, zUnd, zCor, zi_eq, zi_le, zi_lt, Int32.reduceToInt, List.length_cons, List.length_nil] at * <;> omega)] | (exfalso; simp only [true_and, and_true, false_and, and_false, true_or, or_true, false_or, or_false, not_true_eq_false, not_false_eq_true, zN, zBw, zUnd, zCor, zi_eq, zi_le, zi_lt, Int32.reduceToInt, List.length_cons, List.length_nil] at * <;> omega)⟩
      · refine z_al iX11_taken_53 rfl ?_
        refine z_gf iX11_taken_54 hR.1 rfl ?_
        refine z_il iX11_taken_57 rfl ?_
        refine z_iald iX11_taken_58 (hR.2.1 1 (by decide)) hi hj ?_
        refine z_goto iX11_taken_59 ?_
        refine z_iret iX11_taken_64 rfl ?_
        exact ⟨_, rfl, rfl, by first | rw [if_pos (by simp only [true_and, and_true, false_and, and_false, true_or, or_true, false_or, or_false, not_true_eq_false, not_false_eq_true, zN, zBw, zUnd, zCor, zi_eq, zi_le, zi_lt, Int32.reduceToInt, List.length_cons, List.length_nil] at * <;> omega)] | rw [if_neg (by simp only [true_and, and_true, false_and, and_false, true_or, or_true, false_or, or_false, not_true_eq_false, not_false_eq_true, zN, zBw, zUnd, zCor, zi_eq, zi_le, zi_lt, Int32.reduceToInt, List.length_cons, List.length_nil] at * <;> omega)] | (exfalso; simp only [true_and, and_true, false_and, and_false, true_or, or_true, false_or, or_false, not_true_eq_false, not_false_eq_true, zN, zBw, zUnd, zCor, zi_eq, zi_le, zi_lt, Int32.reduceToInt, List.length_cons, List.length_nil] at * <;> omega)⟩
    · refine z_il iX11_taken_40 rfl ?_
      refine z_cs1i (fr' := fr - 1) iX11_taken_41 zmX11_over (c11_over _) (by omega) (Nat.le_of_ble_eq_true rfl) (fun x M1 hq => ?_)
      obtain ⟨rfl, rfl⟩ := hq
      refine z_is iX11_taken_44 ?_
      refine z_goto iX11_taken_45 ?_
      exact absurd rfl (by assumption)
set_option maxRecDepth 20000 in
set_option maxHeartbeats 4000000 in
theorem l11_t0 {fr : Nat} {M : zM} {I J : zSI} {A : zSA} {L : zSL} {K : Int64} (hR : RepM M I A L J K) (e k : Int32) (hk : zBw k 0 5) (hi : e.toInt = (zN e : Int)) (hj : zN e < 24) : zV zX11_taken fr 0 0 30 (zL [some (zr (40, 0)), some (zi e), some (zi k), some (zi (0))]) [] M (fun r M' => ∃ x, r = some (zi x) ∧ M' = M ∧ x = if zUA (0) k then A 1 (zN e) else -13) := by
  refine z_il iX11_taken_30 rfl ?_
  refine z_co iX11_taken_31 ?_
  refine z_icmp_eq iX11_taken_32 (fun h1 => ?_) (fun h1 => ?_)
  · refine z_il iX11_taken_48 rfl ?_
    refine z_il iX11_taken_49 rfl ?_
    refine z_icmp_ne iX11_taken_50 (fun h2 => ?_) (fun h2 => ?_)
    · refine z_co iX11_taken_62 ?_
      refine z_iret iX11_taken_64 rfl ?_
      exact ⟨_, rfl, rfl, by first | rw [if_pos (by simp only [true_and, and_true, false_and, and_false, true_or, or_true, false_or, or_false, not_true_eq_false, not_false_eq_true, zN, zBw, zUnd, zCor, zi_eq, zi_le, zi_lt, Int32.reduceToInt, List.length_cons, List.length_nil] at * <;> omega)] | rw [if_neg (by simp only [true_and, and_true, false_and, and_false, true_or, or_true, false_or, or_false, not_true_eq_false, not_false_eq_true, zN, zBw, zUnd, zCor, zi_eq, zi_le, zi_lt, Int32.reduceToInt, List.length_cons, List.length_nil] at * <;> omega)] | (exfalso; simp only [true_and, and_true, false_and, and_false, true_or, or_true, false_or, or_false, not_true_eq_false, not_false_eq_true, zN, zBw, zUnd, zCor, zi_eq, zi_le, zi_lt, Int32.reduceToInt, List.length_cons, List.length_nil] at * <;> omega)⟩
    · refine z_al iX11_taken_53 rfl ?_
      refine z_gf iX11_taken_54 hR.1 rfl ?_
      refine z_il iX11_taken_57 rfl ?_
      refine z_iald iX11_taken_58 (hR.2.1 1 (by decide)) hi hj ?_
      refine z_goto iX11_taken_59 ?_
      refine z_iret iX11_taken_64 rfl ?_
      exact ⟨_, rfl, rfl, by first | rw [if_pos (by simp only [true_and, and_true, false_and, and_false, true_or, or_true, false_or, or_false, not_true_eq_false, not_false_eq_true, zN, zBw, zUnd, zCor, zi_eq, zi_le, zi_lt, Int32.reduceToInt, List.length_cons, List.length_nil] at * <;> omega)] | rw [if_neg (by simp only [true_and, and_true, false_and, and_false, true_or, or_true, false_or, or_false, not_true_eq_false, not_false_eq_true, zN, zBw, zUnd, zCor, zi_eq, zi_le, zi_lt, Int32.reduceToInt, List.length_cons, List.length_nil] at * <;> omega)] | (exfalso; simp only [true_and, and_true, false_and, and_false, true_or, or_true, false_or, or_false, not_true_eq_false, not_false_eq_true, zN, zBw, zUnd, zCor, zi_eq, zi_le, zi_lt, Int32.reduceToInt, List.length_cons, List.length_nil] at * <;> omega)⟩
  · refine z_il iX11_taken_35 rfl ?_
    refine z_il iX11_taken_36 rfl ?_
    refine z_icmp_eq iX11_taken_37 (fun h3 => ?_) (fun h3 => ?_)
    · refine z_il iX11_taken_48 rfl ?_
      refine z_il iX11_taken_49 rfl ?_
      refine z_icmp_ne iX11_taken_50 (fun h4 => ?_) (fun h4 => ?_)
      · refine z_co iX11_taken_62 ?_
        refine z_iret iX11_taken_64 rfl ?_
        exact ⟨_, rfl, rfl, by first | rw [if_pos (by simp only [true_and, and_true, false_and, and_false, true_or, or_true, false_or, or_false, not_true_eq_false, not_false_eq_true, zN, zBw, zUnd, zCor, zi_eq, zi_le, zi_lt, Int32.reduceToInt, List.length_cons, List.length_nil] at * <;> omega)] | rw [if_neg (by simp only [true_and, and_true, false_and, and_false, true_or, or_true, false_or, or_false, not_true_eq_false, not_false_eq_true, zN, zBw, zUnd, zCor, zi_eq, zi_le, zi_lt, Int32.reduceToInt, List.length_cons, List.length_nil] at * <;> omega)] | (exfalso; simp only [true_and, and_true, false_and, and_false, true_or, or_true, false_or, or_false, not_true_eq_false, not_false_eq_true, zN, zBw, zUnd, zCor, zi_eq, zi_le, zi_lt, Int32.reduceToInt, List.length_cons, List.length_nil] at * <;> omega)⟩
      · refine z_al iX11_taken_53 rfl ?_
        refine z_gf iX11_taken_54 hR.1 rfl ?_
        refine z_il iX11_taken_57 rfl ?_
        refine z_iald iX11_taken_58 (hR.2.1 1 (by decide)) hi hj ?_
        refine z_goto iX11_taken_59 ?_
        refine z_iret iX11_taken_64 rfl ?_
        exact ⟨_, rfl, rfl, by first | rw [if_pos (by simp only [true_and, and_true, false_and, and_false, true_or, or_true, false_or, or_false, not_true_eq_false, not_false_eq_true, zN, zBw, zUnd, zCor, zi_eq, zi_le, zi_lt, Int32.reduceToInt, List.length_cons, List.length_nil] at * <;> omega)] | rw [if_neg (by simp only [true_and, and_true, false_and, and_false, true_or, or_true, false_or, or_false, not_true_eq_false, not_false_eq_true, zN, zBw, zUnd, zCor, zi_eq, zi_le, zi_lt, Int32.reduceToInt, List.length_cons, List.length_nil] at * <;> omega)] | (exfalso; simp only [true_and, and_true, false_and, and_false, true_or, or_true, false_or, or_false, not_true_eq_false, not_false_eq_true, zN, zBw, zUnd, zCor, zi_eq, zi_le, zi_lt, Int32.reduceToInt, List.length_cons, List.length_nil] at * <;> omega)⟩
    · refine z_il iX11_taken_40 rfl ?_
      refine z_cs1i (fr' := fr - 1) iX11_taken_41 zmX11_over (c11_over _) (by omega) (Nat.le_of_ble_eq_true rfl) (fun x M1 hq => ?_)
      obtain ⟨rfl, rfl⟩ := hq
      refine z_is iX11_taken_44 ?_
      refine z_goto iX11_taken_45 ?_
      refine z_loc [some (zr (40, 0)), some (zi e), some (zi k), some (zi (-1))] ⟨rfl, rfl, rfl, rfl, trivial⟩ ?_
      refine (l11_tm1 hR e k hk hi hj).mono (fun r M' ⟨x, hr, hm, hx⟩ => ⟨x, hr, hm, hx.trans (if_congr ?_ rfl rfl)⟩)
      constructor <;> (intro gg; simp only [true_and, and_true, false_and, and_false, true_or, or_true, false_or, or_false, not_true_eq_false, not_false_eq_true, zN, zBw, zUnd, zCor, zi_eq, zi_le, zi_lt, Int32.reduceToInt, List.length_cons, List.length_nil] at * <;> omega)
set_option maxRecDepth 20000 in
set_option maxHeartbeats 4000000 in
theorem l11_t1 {fr : Nat} {M : zM} {I J : zSI} {A : zSA} {L : zSL} {K : Int64} (hR : RepM M I A L J K) (e k : Int32) (hk : zBw k 0 5) (hi : e.toInt = (zN e : Int)) (hj : zN e < 24) : zV zX11_taken fr 0 0 30 (zL [some (zr (40, 0)), some (zi e), some (zi k), some (zi (1))]) [] M (fun r M' => ∃ x, r = some (zi x) ∧ M' = M ∧ x = if zUA (1) k then A 1 (zN e) else -13) := by
  refine z_il iX11_taken_30 rfl ?_
  refine z_co iX11_taken_31 ?_
  refine z_icmp_eq iX11_taken_32 (fun h1 => ?_) (fun h1 => ?_)
  · refine z_il iX11_taken_48 rfl ?_
    refine z_il iX11_taken_49 rfl ?_
    refine z_icmp_ne iX11_taken_50 (fun h2 => ?_) (fun h2 => ?_)
    · refine z_co iX11_taken_62 ?_
      refine z_iret iX11_taken_64 rfl ?_
      exact ⟨_, rfl, rfl, by first | rw [if_pos (by simp only [true_and, and_true, false_and, and_false, true_or, or_true, false_or, or_false, not_true_eq_false, not_false_eq_true, zN, zBw, zUnd, zCor, zi_eq, zi_le, zi_lt, Int32.reduceToInt, List.length_cons, List.length_nil] at * <;> omega)] | rw [if_neg (by simp only [true_and, and_true, false_and, and_false, true_or, or_true, false_or, or_false, not_true_eq_false, not_false_eq_true, zN, zBw, zUnd, zCor, zi_eq, zi_le, zi_lt, Int32.reduceToInt, List.length_cons, List.length_nil] at * <;> omega)] | (exfalso; simp only [true_and, and_true, false_and, and_false, true_or, or_true, false_or, or_false, not_true_eq_false, not_false_eq_true, zN, zBw, zUnd, zCor, zi_eq, zi_le, zi_lt, Int32.reduceToInt, List.length_cons, List.length_nil] at * <;> omega)⟩
    · refine z_al iX11_taken_53 rfl ?_
      refine z_gf iX11_taken_54 hR.1 rfl ?_
      refine z_il iX11_taken_57 rfl ?_
      refine z_iald iX11_taken_58 (hR.2.1 1 (by decide)) hi hj ?_
      refine z_goto iX11_taken_59 ?_
      refine z_iret iX11_taken_64 rfl ?_
      exact ⟨_, rfl, rfl, by first | rw [if_pos (by simp only [true_and, and_true, false_and, and_false, true_or, or_true, false_or, or_false, not_true_eq_false, not_false_eq_true, zN, zBw, zUnd, zCor, zi_eq, zi_le, zi_lt, Int32.reduceToInt, List.length_cons, List.length_nil] at * <;> omega)] | rw [if_neg (by simp only [true_and, and_true, false_and, and_false, true_or, or_true, false_or, or_false, not_true_eq_false, not_false_eq_true, zN, zBw, zUnd, zCor, zi_eq, zi_le, zi_lt, Int32.reduceToInt, List.length_cons, List.length_nil] at * <;> omega)] | (exfalso; simp only [true_and, and_true, false_and, and_false, true_or, or_true, false_or, or_false, not_true_eq_false, not_false_eq_true, zN, zBw, zUnd, zCor, zi_eq, zi_le, zi_lt, Int32.reduceToInt, List.length_cons, List.length_nil] at * <;> omega)⟩
  · refine z_il iX11_taken_35 rfl ?_
    refine z_il iX11_taken_36 rfl ?_
    refine z_icmp_eq iX11_taken_37 (fun h3 => ?_) (fun h3 => ?_)
    · refine z_il iX11_taken_48 rfl ?_
      refine z_il iX11_taken_49 rfl ?_
      refine z_icmp_ne iX11_taken_50 (fun h4 => ?_) (fun h4 => ?_)
      · refine z_co iX11_taken_62 ?_
        refine z_iret iX11_taken_64 rfl ?_
        exact ⟨_, rfl, rfl, by first | rw [if_pos (by simp only [true_and, and_true, false_and, and_false, true_or, or_true, false_or, or_false, not_true_eq_false, not_false_eq_true, zN, zBw, zUnd, zCor, zi_eq, zi_le, zi_lt, Int32.reduceToInt, List.length_cons, List.length_nil] at * <;> omega)] | rw [if_neg (by simp only [true_and, and_true, false_and, and_false, true_or, or_true, false_or, or_false, not_true_eq_false, not_false_eq_true, zN, zBw, zUnd, zCor, zi_eq, zi_le, zi_lt, Int32.reduceToInt, List.length_cons, List.length_nil] at * <;> omega)] | (exfalso; simp only [true_and, and_true, false_and, and_false, true_or, or_true, false_or, or_false, not_true_eq_false, not_false_eq_true, zN, zBw, zUnd, zCor, zi_eq, zi_le, zi_lt, Int32.reduceToInt, List.length_cons, List.length_nil] at * <;> omega)⟩
      · refine z_al iX11_taken_53 rfl ?_
        refine z_gf iX11_taken_54 hR.1 rfl ?_
        refine z_il iX11_taken_57 rfl ?_
        refine z_iald iX11_taken_58 (hR.2.1 1 (by decide)) hi hj ?_
        refine z_goto iX11_taken_59 ?_
        refine z_iret iX11_taken_64 rfl ?_
        exact ⟨_, rfl, rfl, by first | rw [if_pos (by simp only [true_and, and_true, false_and, and_false, true_or, or_true, false_or, or_false, not_true_eq_false, not_false_eq_true, zN, zBw, zUnd, zCor, zi_eq, zi_le, zi_lt, Int32.reduceToInt, List.length_cons, List.length_nil] at * <;> omega)] | rw [if_neg (by simp only [true_and, and_true, false_and, and_false, true_or, or_true, false_or, or_false, not_true_eq_false, not_false_eq_true, zN, zBw, zUnd, zCor, zi_eq, zi_le, zi_lt, Int32.reduceToInt, List.length_cons, List.length_nil] at * <;> omega)] | (exfalso; simp only [true_and, and_true, false_and, and_false, true_or, or_true, false_or, or_false, not_true_eq_false, not_false_eq_true, zN, zBw, zUnd, zCor, zi_eq, zi_le, zi_lt, Int32.reduceToInt, List.length_cons, List.length_nil] at * <;> omega)⟩
    · refine z_il iX11_taken_40 rfl ?_
      refine z_cs1i (fr' := fr - 1) iX11_taken_41 zmX11_over (c11_over _) (by omega) (Nat.le_of_ble_eq_true rfl) (fun x M1 hq => ?_)
      obtain ⟨rfl, rfl⟩ := hq
      refine z_is iX11_taken_44 ?_
      refine z_goto iX11_taken_45 ?_
      refine z_loc [some (zr (40, 0)), some (zi e), some (zi k), some (zi (0))] ⟨rfl, rfl, rfl, rfl, trivial⟩ ?_
      refine (l11_t0 hR e k hk hi hj).mono (fun r M' ⟨x, hr, hm, hx⟩ => ⟨x, hr, hm, hx.trans (if_congr ?_ rfl rfl)⟩)
      constructor <;> (intro gg; simp only [true_and, and_true, false_and, and_false, true_or, or_true, false_or, or_false, not_true_eq_false, not_false_eq_true, zN, zBw, zUnd, zCor, zi_eq, zi_le, zi_lt, Int32.reduceToInt, List.length_cons, List.length_nil] at * <;> omega)
set_option maxRecDepth 20000 in
set_option maxHeartbeats 4000000 in
theorem l11_t3 {fr : Nat} {M : zM} {I J : zSI} {A : zSA} {L : zSL} {K : Int64} (hR : RepM M I A L J K) (e k : Int32) (hk : zBw k 0 5) (hi : e.toInt = (zN e : Int)) (hj : zN e < 24) : zV zX11_taken fr 0 0 30 (zL [some (zr (40, 0)), some (zi e), some (zi k), some (zi (3))]) [] M (fun r M' => ∃ x, r = some (zi x) ∧ M' = M ∧ x = if zUA (3) k then A 1 (zN e) else -13) := by
  refine z_il iX11_taken_30 rfl ?_
  refine z_co iX11_taken_31 ?_
  refine z_icmp_eq iX11_taken_32 (fun h1 => ?_) (fun h1 => ?_)
  · refine z_il iX11_taken_48 rfl ?_
    refine z_il iX11_taken_49 rfl ?_
    refine z_icmp_ne iX11_taken_50 (fun h2 => ?_) (fun h2 => ?_)
    · refine z_co iX11_taken_62 ?_
      refine z_iret iX11_taken_64 rfl ?_
      exact ⟨_, rfl, rfl, by first | rw [if_pos (by simp only [true_and, and_true, false_and, and_false, true_or, or_true, false_or, or_false, not_true_eq_false, not_false_eq_true, zN, zBw, zUnd, zCor, zi_eq, zi_le, zi_lt, Int32.reduceToInt, List.length_cons, List.length_nil] at * <;> omega)] | rw [if_neg (by simp only [true_and, and_true, false_and, and_false, true_or, or_true, false_or, or_false, not_true_eq_false, not_false_eq_true, zN, zBw, zUnd, zCor, zi_eq, zi_le, zi_lt, Int32.reduceToInt, List.length_cons, List.length_nil] at * <;> omega)] | (exfalso; simp only [true_and, and_true, false_and, and_false, true_or, or_true, false_or, or_false, not_true_eq_false, not_false_eq_true, zN, zBw, zUnd, zCor, zi_eq, zi_le, zi_lt, Int32.reduceToInt, List.length_cons, List.length_nil] at * <;> omega)⟩
    · refine z_al iX11_taken_53 rfl ?_
      refine z_gf iX11_taken_54 hR.1 rfl ?_
      refine z_il iX11_taken_57 rfl ?_
      refine z_iald iX11_taken_58 (hR.2.1 1 (by decide)) hi hj ?_
      refine z_goto iX11_taken_59 ?_
      refine z_iret iX11_taken_64 rfl ?_
      exact ⟨_, rfl, rfl, by first | rw [if_pos (by simp only [true_and, and_true, false_and, and_false, true_or, or_true, false_or, or_false, not_true_eq_false, not_false_eq_true, zN, zBw, zUnd, zCor, zi_eq, zi_le, zi_lt, Int32.reduceToInt, List.length_cons, List.length_nil] at * <;> omega)] | rw [if_neg (by simp only [true_and, and_true, false_and, and_false, true_or, or_true, false_or, or_false, not_true_eq_false, not_false_eq_true, zN, zBw, zUnd, zCor, zi_eq, zi_le, zi_lt, Int32.reduceToInt, List.length_cons, List.length_nil] at * <;> omega)] | (exfalso; simp only [true_and, and_true, false_and, and_false, true_or, or_true, false_or, or_false, not_true_eq_false, not_false_eq_true, zN, zBw, zUnd, zCor, zi_eq, zi_le, zi_lt, Int32.reduceToInt, List.length_cons, List.length_nil] at * <;> omega)⟩
  · refine z_il iX11_taken_35 rfl ?_
    refine z_il iX11_taken_36 rfl ?_
    refine z_icmp_eq iX11_taken_37 (fun h3 => ?_) (fun h3 => ?_)
    · refine z_il iX11_taken_48 rfl ?_
      refine z_il iX11_taken_49 rfl ?_
      refine z_icmp_ne iX11_taken_50 (fun h4 => ?_) (fun h4 => ?_)
      · refine z_co iX11_taken_62 ?_
        refine z_iret iX11_taken_64 rfl ?_
        exact ⟨_, rfl, rfl, by first | rw [if_pos (by simp only [true_and, and_true, false_and, and_false, true_or, or_true, false_or, or_false, not_true_eq_false, not_false_eq_true, zN, zBw, zUnd, zCor, zi_eq, zi_le, zi_lt, Int32.reduceToInt, List.length_cons, List.length_nil] at * <;> omega)] | rw [if_neg (by simp only [true_and, and_true, false_and, and_false, true_or, or_true, false_or, or_false, not_true_eq_false, not_false_eq_true, zN, zBw, zUnd, zCor, zi_eq, zi_le, zi_lt, Int32.reduceToInt, List.length_cons, List.length_nil] at * <;> omega)] | (exfalso; simp only [true_and, and_true, false_and, and_false, true_or, or_true, false_or, or_false, not_true_eq_false, not_false_eq_true, zN, zBw, zUnd, zCor, zi_eq, zi_le, zi_lt, Int32.reduceToInt, List.length_cons, List.length_nil] at * <;> omega)⟩
      · refine z_al iX11_taken_53 rfl ?_
        refine z_gf iX11_taken_54 hR.1 rfl ?_
        refine z_il iX11_taken_57 rfl ?_
        refine z_iald iX11_taken_58 (hR.2.1 1 (by decide)) hi hj ?_
        refine z_goto iX11_taken_59 ?_
        refine z_iret iX11_taken_64 rfl ?_
        exact ⟨_, rfl, rfl, by first | rw [if_pos (by simp only [true_and, and_true, false_and, and_false, true_or, or_true, false_or, or_false, not_true_eq_false, not_false_eq_true, zN, zBw, zUnd, zCor, zi_eq, zi_le, zi_lt, Int32.reduceToInt, List.length_cons, List.length_nil] at * <;> omega)] | rw [if_neg (by simp only [true_and, and_true, false_and, and_false, true_or, or_true, false_or, or_false, not_true_eq_false, not_false_eq_true, zN, zBw, zUnd, zCor, zi_eq, zi_le, zi_lt, Int32.reduceToInt, List.length_cons, List.length_nil] at * <;> omega)] | (exfalso; simp only [true_and, and_true, false_and, and_false, true_or, or_true, false_or, or_false, not_true_eq_false, not_false_eq_true, zN, zBw, zUnd, zCor, zi_eq, zi_le, zi_lt, Int32.reduceToInt, List.length_cons, List.length_nil] at * <;> omega)⟩
    · refine z_il iX11_taken_40 rfl ?_
      refine z_cs1i (fr' := fr - 1) iX11_taken_41 zmX11_over (c11_over _) (by omega) (Nat.le_of_ble_eq_true rfl) (fun x M1 hq => ?_)
      obtain ⟨rfl, rfl⟩ := hq
      refine z_is iX11_taken_44 ?_
      refine z_goto iX11_taken_45 ?_
      refine z_loc [some (zr (40, 0)), some (zi e), some (zi k), some (zi (0))] ⟨rfl, rfl, rfl, rfl, trivial⟩ ?_
      refine (l11_t0 hR e k hk hi hj).mono (fun r M' ⟨x, hr, hm, hx⟩ => ⟨x, hr, hm, hx.trans (if_congr ?_ rfl rfl)⟩)
      constructor <;> (intro gg; simp only [true_and, and_true, false_and, and_false, true_or, or_true, false_or, or_false, not_true_eq_false, not_false_eq_true, zN, zBw, zUnd, zCor, zi_eq, zi_le, zi_lt, Int32.reduceToInt, List.length_cons, List.length_nil] at * <;> omega)
set_option maxRecDepth 20000 in
set_option maxHeartbeats 4000000 in
theorem l11_t2 {fr : Nat} {M : zM} {I J : zSI} {A : zSA} {L : zSL} {K : Int64} (hR : RepM M I A L J K) (e k : Int32) (hk : zBw k 0 5) (hi : e.toInt = (zN e : Int)) (hj : zN e < 24) : zV zX11_taken fr 0 0 30 (zL [some (zr (40, 0)), some (zi e), some (zi k), some (zi (2))]) [] M (fun r M' => ∃ x, r = some (zi x) ∧ M' = M ∧ x = if zUA (2) k then A 1 (zN e) else -13) := by
  refine z_il iX11_taken_30 rfl ?_
  refine z_co iX11_taken_31 ?_
  refine z_icmp_eq iX11_taken_32 (fun h1 => ?_) (fun h1 => ?_)
  · refine z_il iX11_taken_48 rfl ?_
    refine z_il iX11_taken_49 rfl ?_
    refine z_icmp_ne iX11_taken_50 (fun h2 => ?_) (fun h2 => ?_)
    · refine z_co iX11_taken_62 ?_
      refine z_iret iX11_taken_64 rfl ?_
      exact ⟨_, rfl, rfl, by first | rw [if_pos (by simp only [true_and, and_true, false_and, and_false, true_or, or_true, false_or, or_false, not_true_eq_false, not_false_eq_true, zN, zBw, zUnd, zCor, zi_eq, zi_le, zi_lt, Int32.reduceToInt, List.length_cons, List.length_nil] at * <;> omega)] | rw [if_neg (by simp only [true_and, and_true, false_and, and_false, true_or, or_true, false_or, or_false, not_true_eq_false, not_false_eq_true, zN, zBw, zUnd, zCor, zi_eq, zi_le, zi_lt, Int32.reduceToInt, List.length_cons, List.length_nil] at * <;> omega)] | (exfalso; simp only [true_and, and_true, false_and, and_false, true_or, or_true, false_or, or_false, not_true_eq_false, not_false_eq_true, zN, zBw, zUnd, zCor, zi_eq, zi_le, zi_lt, Int32.reduceToInt, List.length_cons, List.length_nil] at * <;> omega)⟩
    · refine z_al iX11_taken_53 rfl ?_
      refine z_gf iX11_taken_54 hR.1 rfl ?_
      refine z_il iX11_taken_57 rfl ?_
      refine z_iald iX11_taken_58 (hR.2.1 1 (by decide)) hi hj ?_
      refine z_goto iX11_taken_59 ?_
      refine z_iret iX11_taken_64 rfl ?_
      exact ⟨_, rfl, rfl, by first | rw [if_pos (by simp only [true_and, and_true, false_and, and_false, true_or, or_true, false_or, or_false, not_true_eq_false, not_false_eq_true, zN, zBw, zUnd, zCor, zi_eq, zi_le, zi_lt, Int32.reduceToInt, List.length_cons, List.length_nil] at * <;> omega)] | rw [if_neg (by simp only [true_and, and_true, false_and, and_false, true_or, or_true, false_or, or_false, not_true_eq_false, not_false_eq_true, zN, zBw, zUnd, zCor, zi_eq, zi_le, zi_lt, Int32.reduceToInt, List.length_cons, List.length_nil] at * <;> omega)] | (exfalso; simp only [true_and, and_true, false_and, and_false, true_or, or_true, false_or, or_false, not_true_eq_false, not_false_eq_true, zN, zBw, zUnd, zCor, zi_eq, zi_le, zi_lt, Int32.reduceToInt, List.length_cons, List.length_nil] at * <;> omega)⟩
  · refine z_il iX11_taken_35 rfl ?_
    refine z_il iX11_taken_36 rfl ?_
    refine z_icmp_eq iX11_taken_37 (fun h3 => ?_) (fun h3 => ?_)
    · refine z_il iX11_taken_48 rfl ?_
      refine z_il iX11_taken_49 rfl ?_
      refine z_icmp_ne iX11_taken_50 (fun h4 => ?_) (fun h4 => ?_)
      · refine z_co iX11_taken_62 ?_
        refine z_iret iX11_taken_64 rfl ?_
        exact ⟨_, rfl, rfl, by first | rw [if_pos (by simp only [true_and, and_true, false_and, and_false, true_or, or_true, false_or, or_false, not_true_eq_false, not_false_eq_true, zN, zBw, zUnd, zCor, zi_eq, zi_le, zi_lt, Int32.reduceToInt, List.length_cons, List.length_nil] at * <;> omega)] | rw [if_neg (by simp only [true_and, and_true, false_and, and_false, true_or, or_true, false_or, or_false, not_true_eq_false, not_false_eq_true, zN, zBw, zUnd, zCor, zi_eq, zi_le, zi_lt, Int32.reduceToInt, List.length_cons, List.length_nil] at * <;> omega)] | (exfalso; simp only [true_and, and_true, false_and, and_false, true_or, or_true, false_or, or_false, not_true_eq_false, not_false_eq_true, zN, zBw, zUnd, zCor, zi_eq, zi_le, zi_lt, Int32.reduceToInt, List.length_cons, List.length_nil] at * <;> omega)⟩
      · refine z_al iX11_taken_53 rfl ?_
        refine z_gf iX11_taken_54 hR.1 rfl ?_
        refine z_il iX11_taken_57 rfl ?_
        refine z_iald iX11_taken_58 (hR.2.1 1 (by decide)) hi hj ?_
        refine z_goto iX11_taken_59 ?_
        refine z_iret iX11_taken_64 rfl ?_
        exact ⟨_, rfl, rfl, by first | rw [if_pos (by simp only [true_and, and_true, false_and, and_false, true_or, or_true, false_or, or_false, not_true_eq_false, not_false_eq_true, zN, zBw, zUnd, zCor, zi_eq, zi_le, zi_lt, Int32.reduceToInt, List.length_cons, List.length_nil] at * <;> omega)] | rw [if_neg (by simp only [true_and, and_true, false_and, and_false, true_or, or_true, false_or, or_false, not_true_eq_false, not_false_eq_true, zN, zBw, zUnd, zCor, zi_eq, zi_le, zi_lt, Int32.reduceToInt, List.length_cons, List.length_nil] at * <;> omega)] | (exfalso; simp only [true_and, and_true, false_and, and_false, true_or, or_true, false_or, or_false, not_true_eq_false, not_false_eq_true, zN, zBw, zUnd, zCor, zi_eq, zi_le, zi_lt, Int32.reduceToInt, List.length_cons, List.length_nil] at * <;> omega)⟩
    · refine z_il iX11_taken_40 rfl ?_
      refine z_cs1i (fr' := fr - 1) iX11_taken_41 zmX11_over (c11_over _) (by omega) (Nat.le_of_ble_eq_true rfl) (fun x M1 hq => ?_)
      obtain ⟨rfl, rfl⟩ := hq
      refine z_is iX11_taken_44 ?_
      refine z_goto iX11_taken_45 ?_
      refine z_loc [some (zr (40, 0)), some (zi e), some (zi k), some (zi (1))] ⟨rfl, rfl, rfl, rfl, trivial⟩ ?_
      refine (l11_t1 hR e k hk hi hj).mono (fun r M' ⟨x, hr, hm, hx⟩ => ⟨x, hr, hm, hx.trans (if_congr ?_ rfl rfl)⟩)
      constructor <;> (intro gg; simp only [true_and, and_true, false_and, and_false, true_or, or_true, false_or, or_false, not_true_eq_false, not_false_eq_true, zN, zBw, zUnd, zCor, zi_eq, zi_le, zi_lt, Int32.reduceToInt, List.length_cons, List.length_nil] at * <;> omega)
set_option maxRecDepth 20000 in
set_option maxHeartbeats 4000000 in
theorem l11_t5 {fr : Nat} {M : zM} {I J : zSI} {A : zSA} {L : zSL} {K : Int64} (hR : RepM M I A L J K) (e k : Int32) (hk : zBw k 0 5) (hi : e.toInt = (zN e : Int)) (hj : zN e < 24) : zV zX11_taken fr 0 0 30 (zL [some (zr (40, 0)), some (zi e), some (zi k), some (zi (5))]) [] M (fun r M' => ∃ x, r = some (zi x) ∧ M' = M ∧ x = if zUA (5) k then A 1 (zN e) else -13) := by
  refine z_il iX11_taken_30 rfl ?_
  refine z_co iX11_taken_31 ?_
  refine z_icmp_eq iX11_taken_32 (fun h1 => ?_) (fun h1 => ?_)
  · refine z_il iX11_taken_48 rfl ?_
    refine z_il iX11_taken_49 rfl ?_
    refine z_icmp_ne iX11_taken_50 (fun h2 => ?_) (fun h2 => ?_)
    · refine z_co iX11_taken_62 ?_
      refine z_iret iX11_taken_64 rfl ?_
      exact ⟨_, rfl, rfl, by first | rw [if_pos (by simp only [true_and, and_true, false_and, and_false, true_or, or_true, false_or, or_false, not_true_eq_false, not_false_eq_true, zN, zBw, zUnd, zCor, zi_eq, zi_le, zi_lt, Int32.reduceToInt, List.length_cons, List.length_nil] at * <;> omega)] | rw [if_neg (by simp only [true_and, and_true, false_and, and_false, true_or, or_true, false_or, or_false, not_true_eq_false, not_false_eq_true, zN, zBw, zUnd, zCor, zi_eq, zi_le, zi_lt, Int32.reduceToInt, List.length_cons, List.length_nil] at * <;> omega)] | (exfalso; simp only [true_and, and_true, false_and, and_false, true_or, or_true, false_or, or_false, not_true_eq_false, not_false_eq_true, zN, zBw, zUnd, zCor, zi_eq, zi_le, zi_lt, Int32.reduceToInt, List.length_cons, List.length_nil] at * <;> omega)⟩
    · refine z_al iX11_taken_53 rfl ?_
      refine z_gf iX11_taken_54 hR.1 rfl ?_
      refine z_il iX11_taken_57 rfl ?_
      refine z_iald iX11_taken_58 (hR.2.1 1 (by decide)) hi hj ?_
      refine z_goto iX11_taken_59 ?_
      refine z_iret iX11_taken_64 rfl ?_
      exact ⟨_, rfl, rfl, by first | rw [if_pos (by simp only [true_and, and_true, false_and, and_false, true_or, or_true, false_or, or_false, not_true_eq_false, not_false_eq_true, zN, zBw, zUnd, zCor, zi_eq, zi_le, zi_lt, Int32.reduceToInt, List.length_cons, List.length_nil] at * <;> omega)] | rw [if_neg (by simp only [true_and, and_true, false_and, and_false, true_or, or_true, false_or, or_false, not_true_eq_false, not_false_eq_true, zN, zBw, zUnd, zCor, zi_eq, zi_le, zi_lt, Int32.reduceToInt, List.length_cons, List.length_nil] at * <;> omega)] | (exfalso; simp only [true_and, and_true, false_and, and_false, true_or, or_true, false_or, or_false, not_true_eq_false, not_false_eq_true, zN, zBw, zUnd, zCor, zi_eq, zi_le, zi_lt, Int32.reduceToInt, List.length_cons, List.length_nil] at * <;> omega)⟩
  · refine z_il iX11_taken_35 rfl ?_
    refine z_il iX11_taken_36 rfl ?_
    refine z_icmp_eq iX11_taken_37 (fun h3 => ?_) (fun h3 => ?_)
    · refine z_il iX11_taken_48 rfl ?_
      refine z_il iX11_taken_49 rfl ?_
      refine z_icmp_ne iX11_taken_50 (fun h4 => ?_) (fun h4 => ?_)
      · refine z_co iX11_taken_62 ?_
        refine z_iret iX11_taken_64 rfl ?_
        exact ⟨_, rfl, rfl, by first | rw [if_pos (by simp only [true_and, and_true, false_and, and_false, true_or, or_true, false_or, or_false, not_true_eq_false, not_false_eq_true, zN, zBw, zUnd, zCor, zi_eq, zi_le, zi_lt, Int32.reduceToInt, List.length_cons, List.length_nil] at * <;> omega)] | rw [if_neg (by simp only [true_and, and_true, false_and, and_false, true_or, or_true, false_or, or_false, not_true_eq_false, not_false_eq_true, zN, zBw, zUnd, zCor, zi_eq, zi_le, zi_lt, Int32.reduceToInt, List.length_cons, List.length_nil] at * <;> omega)] | (exfalso; simp only [true_and, and_true, false_and, and_false, true_or, or_true, false_or, or_false, not_true_eq_false, not_false_eq_true, zN, zBw, zUnd, zCor, zi_eq, zi_le, zi_lt, Int32.reduceToInt, List.length_cons, List.length_nil] at * <;> omega)⟩
      · refine z_al iX11_taken_53 rfl ?_
        refine z_gf iX11_taken_54 hR.1 rfl ?_
        refine z_il iX11_taken_57 rfl ?_
        refine z_iald iX11_taken_58 (hR.2.1 1 (by decide)) hi hj ?_
        refine z_goto iX11_taken_59 ?_
        refine z_iret iX11_taken_64 rfl ?_
        exact ⟨_, rfl, rfl, by first | rw [if_pos (by simp only [true_and, and_true, false_and, and_false, true_or, or_true, false_or, or_false, not_true_eq_false, not_false_eq_true, zN, zBw, zUnd, zCor, zi_eq, zi_le, zi_lt, Int32.reduceToInt, List.length_cons, List.length_nil] at * <;> omega)] | rw [if_neg (by simp only [true_and, and_true, false_and, and_false, true_or, or_true, false_or, or_false, not_true_eq_false, not_false_eq_true, zN, zBw, zUnd, zCor, zi_eq, zi_le, zi_lt, Int32.reduceToInt, List.length_cons, List.length_nil] at * <;> omega)] | (exfalso; simp only [true_and, and_true, false_and, and_false, true_or, or_true, false_or, or_false, not_true_eq_false, not_false_eq_true, zN, zBw, zUnd, zCor, zi_eq, zi_le, zi_lt, Int32.reduceToInt, List.length_cons, List.length_nil] at * <;> omega)⟩
    · refine z_il iX11_taken_40 rfl ?_
      refine z_cs1i (fr' := fr - 1) iX11_taken_41 zmX11_over (c11_over _) (by omega) (Nat.le_of_ble_eq_true rfl) (fun x M1 hq => ?_)
      obtain ⟨rfl, rfl⟩ := hq
      refine z_is iX11_taken_44 ?_
      refine z_goto iX11_taken_45 ?_
      refine z_loc [some (zr (40, 0)), some (zi e), some (zi k), some (zi (1))] ⟨rfl, rfl, rfl, rfl, trivial⟩ ?_
      refine (l11_t1 hR e k hk hi hj).mono (fun r M' ⟨x, hr, hm, hx⟩ => ⟨x, hr, hm, hx.trans (if_congr ?_ rfl rfl)⟩)
      constructor <;> (intro gg; simp only [true_and, and_true, false_and, and_false, true_or, or_true, false_or, or_false, not_true_eq_false, not_false_eq_true, zN, zBw, zUnd, zCor, zi_eq, zi_le, zi_lt, Int32.reduceToInt, List.length_cons, List.length_nil] at * <;> omega)
set_option maxRecDepth 20000 in
set_option maxHeartbeats 4000000 in
theorem l11_t4 {fr : Nat} {M : zM} {I J : zSI} {A : zSA} {L : zSL} {K : Int64} (hR : RepM M I A L J K) (e k : Int32) (hk : zBw k 0 5) (hi : e.toInt = (zN e : Int)) (hj : zN e < 24) : zV zX11_taken fr 0 0 30 (zL [some (zr (40, 0)), some (zi e), some (zi k), some (zi (4))]) [] M (fun r M' => ∃ x, r = some (zi x) ∧ M' = M ∧ x = if zUA (4) k then A 1 (zN e) else -13) := by
  refine z_il iX11_taken_30 rfl ?_
  refine z_co iX11_taken_31 ?_
  refine z_icmp_eq iX11_taken_32 (fun h1 => ?_) (fun h1 => ?_)
  · refine z_il iX11_taken_48 rfl ?_
    refine z_il iX11_taken_49 rfl ?_
    refine z_icmp_ne iX11_taken_50 (fun h2 => ?_) (fun h2 => ?_)
    · refine z_co iX11_taken_62 ?_
      refine z_iret iX11_taken_64 rfl ?_
      exact ⟨_, rfl, rfl, by first | rw [if_pos (by simp only [true_and, and_true, false_and, and_false, true_or, or_true, false_or, or_false, not_true_eq_false, not_false_eq_true, zN, zBw, zUnd, zCor, zi_eq, zi_le, zi_lt, Int32.reduceToInt, List.length_cons, List.length_nil] at * <;> omega)] | rw [if_neg (by simp only [true_and, and_true, false_and, and_false, true_or, or_true, false_or, or_false, not_true_eq_false, not_false_eq_true, zN, zBw, zUnd, zCor, zi_eq, zi_le, zi_lt, Int32.reduceToInt, List.length_cons, List.length_nil] at * <;> omega)] | (exfalso; simp only [true_and, and_true, false_and, and_false, true_or, or_true, false_or, or_false, not_true_eq_false, not_false_eq_true, zN, zBw, zUnd, zCor, zi_eq, zi_le, zi_lt, Int32.reduceToInt, List.length_cons, List.length_nil] at * <;> omega)⟩
    · refine z_al iX11_taken_53 rfl ?_
      refine z_gf iX11_taken_54 hR.1 rfl ?_
      refine z_il iX11_taken_57 rfl ?_
      refine z_iald iX11_taken_58 (hR.2.1 1 (by decide)) hi hj ?_
      refine z_goto iX11_taken_59 ?_
      refine z_iret iX11_taken_64 rfl ?_
      exact ⟨_, rfl, rfl, by first | rw [if_pos (by simp only [true_and, and_true, false_and, and_false, true_or, or_true, false_or, or_false, not_true_eq_false, not_false_eq_true, zN, zBw, zUnd, zCor, zi_eq, zi_le, zi_lt, Int32.reduceToInt, List.length_cons, List.length_nil] at * <;> omega)] | rw [if_neg (by simp only [true_and, and_true, false_and, and_false, true_or, or_true, false_or, or_false, not_true_eq_false, not_false_eq_true, zN, zBw, zUnd, zCor, zi_eq, zi_le, zi_lt, Int32.reduceToInt, List.length_cons, List.length_nil] at * <;> omega)] | (exfalso; simp only [true_and, and_true, false_and, and_false, true_or, or_true, false_or, or_false, not_true_eq_false, not_false_eq_true, zN, zBw, zUnd, zCor, zi_eq, zi_le, zi_lt, Int32.reduceToInt, List.length_cons, List.length_nil] at * <;> omega)⟩
  · refine z_il iX11_taken_35 rfl ?_
    refine z_il iX11_taken_36 rfl ?_
    refine z_icmp_eq iX11_taken_37 (fun h3 => ?_) (fun h3 => ?_)
    · refine z_il iX11_taken_48 rfl ?_
      refine z_il iX11_taken_49 rfl ?_
      refine z_icmp_ne iX11_taken_50 (fun h4 => ?_) (fun h4 => ?_)
      · refine z_co iX11_taken_62 ?_
        refine z_iret iX11_taken_64 rfl ?_
        exact ⟨_, rfl, rfl, by first | rw [if_pos (by simp only [true_and, and_true, false_and, and_false, true_or, or_true, false_or, or_false, not_true_eq_false, not_false_eq_true, zN, zBw, zUnd, zCor, zi_eq, zi_le, zi_lt, Int32.reduceToInt, List.length_cons, List.length_nil] at * <;> omega)] | rw [if_neg (by simp only [true_and, and_true, false_and, and_false, true_or, or_true, false_or, or_false, not_true_eq_false, not_false_eq_true, zN, zBw, zUnd, zCor, zi_eq, zi_le, zi_lt, Int32.reduceToInt, List.length_cons, List.length_nil] at * <;> omega)] | (exfalso; simp only [true_and, and_true, false_and, and_false, true_or, or_true, false_or, or_false, not_true_eq_false, not_false_eq_true, zN, zBw, zUnd, zCor, zi_eq, zi_le, zi_lt, Int32.reduceToInt, List.length_cons, List.length_nil] at * <;> omega)⟩
      · refine z_al iX11_taken_53 rfl ?_
        refine z_gf iX11_taken_54 hR.1 rfl ?_
        refine z_il iX11_taken_57 rfl ?_
        refine z_iald iX11_taken_58 (hR.2.1 1 (by decide)) hi hj ?_
        refine z_goto iX11_taken_59 ?_
        refine z_iret iX11_taken_64 rfl ?_
        exact ⟨_, rfl, rfl, by first | rw [if_pos (by simp only [true_and, and_true, false_and, and_false, true_or, or_true, false_or, or_false, not_true_eq_false, not_false_eq_true, zN, zBw, zUnd, zCor, zi_eq, zi_le, zi_lt, Int32.reduceToInt, List.length_cons, List.length_nil] at * <;> omega)] | rw [if_neg (by simp only [true_and, and_true, false_and, and_false, true_or, or_true, false_or, or_false, not_true_eq_false, not_false_eq_true, zN, zBw, zUnd, zCor, zi_eq, zi_le, zi_lt, Int32.reduceToInt, List.length_cons, List.length_nil] at * <;> omega)] | (exfalso; simp only [true_and, and_true, false_and, and_false, true_or, or_true, false_or, or_false, not_true_eq_false, not_false_eq_true, zN, zBw, zUnd, zCor, zi_eq, zi_le, zi_lt, Int32.reduceToInt, List.length_cons, List.length_nil] at * <;> omega)⟩
    · refine z_il iX11_taken_40 rfl ?_
      refine z_cs1i (fr' := fr - 1) iX11_taken_41 zmX11_over (c11_over _) (by omega) (Nat.le_of_ble_eq_true rfl) (fun x M1 hq => ?_)
      obtain ⟨rfl, rfl⟩ := hq
      refine z_is iX11_taken_44 ?_
      refine z_goto iX11_taken_45 ?_
      refine z_loc [some (zr (40, 0)), some (zi e), some (zi k), some (zi (3))] ⟨rfl, rfl, rfl, rfl, trivial⟩ ?_
      refine (l11_t3 hR e k hk hi hj).mono (fun r M' ⟨x, hr, hm, hx⟩ => ⟨x, hr, hm, hx.trans (if_congr ?_ rfl rfl)⟩)
      constructor <;> (intro gg; simp only [true_and, and_true, false_and, and_false, true_or, or_true, false_or, or_false, not_true_eq_false, not_false_eq_true, zN, zBw, zUnd, zCor, zi_eq, zi_le, zi_lt, Int32.reduceToInt, List.length_cons, List.length_nil] at * <;> omega)
