theorem RepX.congrI {TR : zTR} {JR : zJR} {M : zM} {I I' : zSI} {A : zSA} {L : zSL} (h : RepX TR JR M I A L) (hI : ∀ k, k < 10 → I' k = I k) : RepX TR JR M I' A L := by
  have q := fun k hk => (hI k hk).symm
  have q0 := q 0 (by decide); have q1 := q 1 (by decide); have q2 := q 2 (by decide); have q3 := q 3 (by decide); have q4 := q 4 (by decide); have q5 := q 5 (by decide); have q6 := q 6 (by decide); have q7 := q 7 (by decide); have q8 := q 8 (by decide); have q9 := q 9 (by decide)
  simp only [RepX, xCore, xObj, xEd, xTo, xMa, xTx, xTa, xJo, q0, q1, q2, q3, q4, q5, q6, q7, q8, q9] at h ⊢
  exact h
theorem RepX.gauge {TR : zTR} {JR : zJR} {M : zM} {I : zSI} {A : zSA} {L : zSL} (h : RepX TR JR M I A L) (o d f : Int32) {fs : List zVal} (hfs : fs = [zi o, zi d, zi f]) : RepX TR JR (zupd M (8, 0) (.inr (4, fs))) (zup (zup (zup I 2 o) 3 d) 4 f) A L := by
  subst hfs
  obtain ⟨h1, h2, h3, h4, h5, h6, h7, h8, h9⟩ := h
  refine ⟨⟨(zupd_k (by decide : (2 : Nat) ≠ 8)).trans h1.1, (zupd_k (by decide : (3 : Nat) ≠ 8)).trans h1.2.1, (zupd_k (by decide : (4 : Nat) ≠ 8)).trans h1.2.2.1, (zupd_k (by decide : (5 : Nat) ≠ 8)).trans h1.2.2.2.1, (zupd_k (by decide : (6 : Nat) ≠ 8)).trans h1.2.2.2.2.1, (zupd_k (by decide : (7 : Nat) ≠ 8)).trans h1.2.2.2.2.2.1, zupd_s⟩, h2.fr (fun e => zupd_k (by decide : (28 : Nat) ≠ 8)) (fun e => zupd_k (by decide : (29 : Nat) ≠ 8)), h3.fr (fun e => zupd_k (by decide : (30 : Nat) ≠ 8)), h4.fr (fun e => zupd_k (by decide : (31 : Nat) ≠ 8)) (fun e => zupd_k (by decide : (32 : Nat) ≠ 8)), h5.fr (fun e => zupd_k (by decide : (26 : Nat) ≠ 8)) (fun e => zupd_k (by decide : (27 : Nat) ≠ 8)), h6.fr (fun e => zupd_k (by decide : (23 : Nat) ≠ 8)) (fun e => zupd_k (by decide : (24 : Nat) ≠ 8)) (fun e => zupd_k (by decide : (25 : Nat) ≠ 8)), h7.fr (zupd_k (by decide : (10 : Nat) ≠ 8)) (zupd_k (by decide : (19 : Nat) ≠ 8)) (zupd_k (by decide : (20 : Nat) ≠ 8)) (zupd_k (by decide : (21 : Nat) ≠ 8)), h8.fr (zupd_k (by decide : (11 : Nat) ≠ 8)) (zupd_k (by decide : (12 : Nat) ≠ 8)) (zupd_k (by decide : (22 : Nat) ≠ 8)) (zupd_k (by decide : (13 : Nat) ≠ 8)), h9.fr (zupd_k (by decide : (9 : Nat) ≠ 8)) (zupd_k (by decide : (14 : Nat) ≠ 8)) (zupd_k (by decide : (15 : Nat) ≠ 8)) (zupd_k (by decide : (16 : Nat) ≠ 8)) (zupd_k (by decide : (17 : Nat) ≠ 8)) (fun e => zupd_k (by decide : (18 : Nat) ≠ 8))⟩
theorem zup_id {f : Nat → Int32} {k : Nat} : zup f k (f k) = f := by
  funext j
  unfold zup
  by_cases q : j = k
  · rw [if_pos q, q]
  · rw [if_neg q]
/-- the thing of a kind that bears a number, if there is one -/
def xo (k : Nat) (n x : Int32) : Option zAd := if zBw x 0 (n - 1) then some (k, zN x) else none
theorem xo_n {k : Nat} {n x : Int32} (h : xo k n x = none) : ¬ zBw x 0 (n - 1) := fun q => by unfold xo at h; rw [if_pos q] at h; cases h
theorem xo_s {k : Nat} {n x : Int32} {a : zAd} (h : xo k n x = some a) : zBw x 0 (n - 1) ∧ a = (k, zN x) := by
  unfold xo at h
  by_cases q : zBw x 0 (n - 1)
  · rw [if_pos q] at h; cases h; exact ⟨q, rfl⟩
  · rw [if_neg q] at h; cases h
theorem xo_in {k : Nat} {n x : Int32} {N : Int} (hn : zRg n 0 N) (hN : N ≤ 1000) (h : zBw x 0 (Int32.ofInt (N - 1))) (hN0 : 0 < N) : xRefs k n (zN x) = xo k n x := by
  obtain ⟨h1, h2⟩ := h
  obtain ⟨h3, h4⟩ := hn
  rw [zi_le] at h1 h2
  simp only [Int32.reduceToInt] at h1
  unfold xRefs xo
  have e1 : (n - 1).toInt = n.toInt - 1 := by rw [zsub (by simp only [Int32.reduceToInt]; omega) (by simp only [Int32.reduceToInt]; omega)]; rfl
  have e0 : zN x = x.toInt.toNat := rfl
  by_cases q : (zN x : Int) < n.toInt
  · rw [if_pos q, if_pos ⟨zi_le.mpr (by simp only [Int32.reduceToInt]; omega), zi_le.mpr (by rw [e1]; omega)⟩]
  · rw [if_neg q, if_neg (fun z => by have := zi_le.mp z.2; rw [e1] at this; omega)]
theorem xo_out {k : Nat} {n x : Int32} {N : Int} (hn : zRg n 0 N) (hN : N ≤ 1000) (h : ¬ zBw x 0 (Int32.ofInt (N - 1))) (hN0 : 0 < N) : xo k n x = none := by
  obtain ⟨h3, h4⟩ := hn
  unfold xo
  rw [if_neg]
  intro z
  refine h ⟨z.1, ?_⟩
  have e1 : (n - 1).toInt = n.toInt - 1 := by rw [zsub (by simp only [Int32.reduceToInt]; omega) (by simp only [Int32.reduceToInt]; omega)]; rfl
  have z2 := zi_le.mp z.2
  rw [e1] at z2
  rw [zi_le, Int32.toInt_ofInt_of_le (by omega) (by omega)]
  omega
theorem zBn {x : Int32} {N : Int32} (h : zBw x 0 N) : x.toInt = (zN x : Int) ∧ zN x < N.toInt.toNat + 1 := by
  have h1 := zi_le.mp h.1
  have h2 := zi_le.mp h.2
  have e0 : zN x = x.toInt.toNat := rfl
  simp only [Int32.reduceToInt] at h1
  omega
set_option maxRecDepth 20000 in
set_option maxHeartbeats 4000000 in
theorem c10_edgeOf {TR : zTR} {JR : zJR} {fr : Nat} {M : zM} {I : zSI} {A : zSA} {L : zSL} (hf : 1 ≤ fr) (hX : RepX TR JR M I A L) (hV : Val I A L) (n : Int32) : zCa zX10_edgeOf fr 0 0 [zr (2, 0), zi n] M (fun x M' => M' = M ∧ x = xo 28 (I 0) n) := by
  refine z_enter (L := [some (zr (2, 0)), some (zi n)]) rfl (by decide +kernel) (Nat.le_of_ble_eq_true rfl) ?_
  refine z_il iX10_edgeOf_0 rfl ?_
  refine z_co iX10_edgeOf_1 ?_
  refine z_co iX10_edgeOf_2 ?_
  refine z_cs3i (fr' := fr - 1) iX10_edgeOf_4 zmX10_within (c10_within _ _ _) (by omega) (Nat.le_of_ble_eq_true rfl) (fun x M1 hq => ?_)
  obtain ⟨rfl, rfl⟩ := hq
  refine z_ib_eq iX10_edgeOf_7 (fun h1 => ?_) (fun h1 => ?_)
  · refine z_null iX10_edgeOf_19 ?_
    refine z_aret iX10_edgeOf_20 rfl ?_
    first | exact ⟨_, rfl, rfl, (xo_out (N := 24) hV.1.1 (by decide) h1 (by decide)).symm⟩ | exact ⟨_, rfl, rfl, xo_in (N := 24) hV.1.1 (by decide) h1 (by decide)⟩
  · refine z_al iX10_edgeOf_10 rfl ?_
    refine z_gf iX10_edgeOf_11 hX.1.1 rfl ?_
    refine z_il iX10_edgeOf_14 rfl ?_
    refine z_aald iX10_edgeOf_15 hX.1.2.1 ⟨by decide, by decide⟩ (zBn h1).1 (zBn h1).2 ?_
    refine z_goto iX10_edgeOf_16 ?_
    refine z_aret iX10_edgeOf_20 rfl ?_
    first | exact ⟨_, rfl, rfl, (xo_out (N := 24) hV.1.1 (by decide) h1 (by decide)).symm⟩ | exact ⟨_, rfl, rfl, xo_in (N := 24) hV.1.1 (by decide) h1 (by decide)⟩
set_option maxRecDepth 20000 in
set_option maxHeartbeats 4000000 in
theorem c10_toolOf {TR : zTR} {JR : zJR} {fr : Nat} {M : zM} {I : zSI} {A : zSA} {L : zSL} (hf : 1 ≤ fr) (hX : RepX TR JR M I A L) (hV : Val I A L) (n : Int32) : zCa zX10_toolOf fr 0 0 [zr (2, 0), zi n] M (fun x M' => M' = M ∧ x = xo 30 (I 1) n) := by
  refine z_enter (L := [some (zr (2, 0)), some (zi n)]) rfl (by decide +kernel) (Nat.le_of_ble_eq_true rfl) ?_
  refine z_il iX10_toolOf_0 rfl ?_
  refine z_co iX10_toolOf_1 ?_
  refine z_co iX10_toolOf_2 ?_
  refine z_cs3i (fr' := fr - 1) iX10_toolOf_4 zmX10_within (c10_within _ _ _) (by omega) (Nat.le_of_ble_eq_true rfl) (fun x M1 hq => ?_)
  obtain ⟨rfl, rfl⟩ := hq
  refine z_ib_eq iX10_toolOf_7 (fun h1 => ?_) (fun h1 => ?_)
  · refine z_null iX10_toolOf_19 ?_
    refine z_aret iX10_toolOf_20 rfl ?_
    first | exact ⟨_, rfl, rfl, (xo_out (N := 10) hV.1.2.1 (by decide) h1 (by decide)).symm⟩ | exact ⟨_, rfl, rfl, xo_in (N := 10) hV.1.2.1 (by decide) h1 (by decide)⟩
  · refine z_al iX10_toolOf_10 rfl ?_
    refine z_gf iX10_toolOf_11 hX.1.1 rfl ?_
    refine z_il iX10_toolOf_14 rfl ?_
    refine z_aald iX10_toolOf_15 hX.1.2.2.1 ⟨by decide, by decide⟩ (zBn h1).1 (zBn h1).2 ?_
    refine z_goto iX10_toolOf_16 ?_
    refine z_aret iX10_toolOf_20 rfl ?_
    first | exact ⟨_, rfl, rfl, (xo_out (N := 10) hV.1.2.1 (by decide) h1 (by decide)).symm⟩ | exact ⟨_, rfl, rfl, xo_in (N := 10) hV.1.2.1 (by decide) h1 (by decide)⟩
set_option maxRecDepth 20000 in
set_option maxHeartbeats 4000000 in
theorem c10_machineOf {TR : zTR} {JR : zJR} {fr : Nat} {M : zM} {I : zSI} {A : zSA} {L : zSL} (hf : 1 ≤ fr) (hX : RepX TR JR M I A L) (hV : Val I A L) (n : Int32) : zCa zX10_machineOf fr 0 0 [zr (2, 0), zi n] M (fun x M' => M' = M ∧ x = xo 31 (I 8) n) := by
  refine z_enter (L := [some (zr (2, 0)), some (zi n)]) rfl (by decide +kernel) (Nat.le_of_ble_eq_true rfl) ?_
  refine z_il iX10_machineOf_0 rfl ?_
  refine z_co iX10_machineOf_1 ?_
  refine z_co iX10_machineOf_2 ?_
  refine z_cs3i (fr' := fr - 1) iX10_machineOf_3 zmX10_within (c10_within _ _ _) (by omega) (Nat.le_of_ble_eq_true rfl) (fun x M1 hq => ?_)
  obtain ⟨rfl, rfl⟩ := hq
  refine z_ib_eq iX10_machineOf_6 (fun h1 => ?_) (fun h1 => ?_)
  · refine z_null iX10_machineOf_18 ?_
    refine z_aret iX10_machineOf_19 rfl ?_
    first | exact ⟨_, rfl, rfl, (xo_out (N := 3) hV.1.2.2.2.2.2.1 (by decide) h1 (by decide)).symm⟩ | exact ⟨_, rfl, rfl, xo_in (N := 3) hV.1.2.2.2.2.2.1 (by decide) h1 (by decide)⟩
  · refine z_al iX10_machineOf_9 rfl ?_
    refine z_gf iX10_machineOf_10 hX.1.1 rfl ?_
    refine z_il iX10_machineOf_13 rfl ?_
    refine z_aald iX10_machineOf_14 hX.1.2.2.2.1 ⟨by decide, by decide⟩ (zBn h1).1 (zBn h1).2 ?_
    refine z_goto iX10_machineOf_15 ?_
    refine z_aret iX10_machineOf_19 rfl ?_
    first | exact ⟨_, rfl, rfl, (xo_out (N := 3) hV.1.2.2.2.2.2.1 (by decide) h1 (by decide)).symm⟩ | exact ⟨_, rfl, rfl, xo_in (N := 3) hV.1.2.2.2.2.2.1 (by decide) h1 (by decide)⟩
set_option maxRecDepth 20000 in
set_option maxHeartbeats 4000000 in
theorem px_setter {TR : zTR} {JR : zJR} {fr : Nat} {M : zM} {I : zSI} {A : zSA} {L : zSL} (hf : 4 ≤ fr) (hX : RepX TR JR M I A L) (hV : Val I A L) (o : Int32) (d : Int32) : zCi zX10_setter fr 0 0 [zr (2, 0), zi o, zi d] M (fun x M' => zEX TR JR M x (sp_setter I A L o d) M') := by
  refine z_enter (L := [some (zr (2, 0)), some (zi o), some (zi d)]) rfl (by decide +kernel) (Nat.le_of_ble_eq_true rfl) ?_
  refine z_il iX10_setter_0 rfl ?_
  refine z_co iX10_setter_1 ?_
  refine z_co iX10_setter_3 ?_
  refine z_cs3i (fr' := fr - 1) iX10_setter_5 zmX10_within (c10_within _ _ _) (by omega) (Nat.le_of_ble_eq_true rfl) (fun x M1 hq => ?_)
  obtain ⟨rfl, rfl⟩ := hq
  refine z_ib_eq iX10_setter_8 (fun h1 => ?_) (fun h1 => ?_)
  · refine z_co iX10_setter_22 ?_
    refine z_iret iX10_setter_24 rfl ?_
    refine ⟨_, rfl, ?_⟩
    unfold sp_setter
    repeat' split
    all_goals first | exact zEX.rd hX | exact zEX.wr ((hX.gauge o d (I 4) rfl).congrI (fun k _ => by unfold zup; split <;> simp_all)) (zfx zfx_nil (by decide)) | (exfalso; simp only [true_and, and_true, false_and, and_false, true_or, or_true, false_or, or_false, not_true_eq_false, not_false_eq_true, zN, zBw, zUnd, zCor, zi_eq, zi_le, zi_lt, Int32.reduceToInt, List.length_cons, List.length_nil] at *; omega)
  · refine z_il iX10_setter_11 rfl ?_
    refine z_co iX10_setter_12 ?_
    refine z_co iX10_setter_14 ?_
    refine z_cs3i (fr' := fr - 1) iX10_setter_16 zmX10_within (c10_within _ _ _) (by omega) (Nat.le_of_ble_eq_true rfl) (fun x M1 hq => ?_)
    obtain ⟨rfl, rfl⟩ := hq
    refine z_ib_ne iX10_setter_19 (fun h2 => ?_) (fun h2 => ?_)
    · refine z_al iX10_setter_25 rfl ?_
      refine z_gf iX10_setter_26 hX.1.1 rfl ?_
      refine z_il iX10_setter_29 rfl ?_
      refine z_pf iX10_setter_30 hX.1.2.2.2.2.2.2 (by decide) (Nat.le_of_ble_eq_true rfl) trivial ?_
      refine z_al iX10_setter_33 rfl ?_
      refine z_gf iX10_setter_34 ((zupd_k (Nat.ne_of_beq_eq_false rfl)).trans hX.1.1) rfl ?_
      refine z_il iX10_setter_37 rfl ?_
      refine z_pf2 iX10_setter_38 (by decide) (Nat.le_of_ble_eq_true rfl) trivial ?_
      refine z_co iX10_setter_41 ?_
      refine z_iret iX10_setter_42 rfl ?_
      refine ⟨_, rfl, ?_⟩
      unfold sp_setter
      repeat' split
      all_goals first | exact zEX.rd hX | exact zEX.wr ((hX.gauge o d (I 4) rfl).congrI (fun k _ => by unfold zup; split <;> simp_all)) (zfx zfx_nil (by decide)) | (exfalso; simp only [true_and, and_true, false_and, and_false, true_or, or_true, false_or, or_false, not_true_eq_false, not_false_eq_true, zN, zBw, zUnd, zCor, zi_eq, zi_le, zi_lt, Int32.reduceToInt, List.length_cons, List.length_nil] at *; omega)
    · refine z_co iX10_setter_22 ?_
      refine z_iret iX10_setter_24 rfl ?_
      refine ⟨_, rfl, ?_⟩
      unfold sp_setter
      repeat' split
      all_goals first | exact zEX.rd hX | exact zEX.wr ((hX.gauge o d (I 4) rfl).congrI (fun k _ => by unfold zup; split <;> simp_all)) (zfx zfx_nil (by decide)) | (exfalso; simp only [true_and, and_true, false_and, and_false, true_or, or_true, false_or, or_false, not_true_eq_false, not_false_eq_true, zN, zBw, zUnd, zCor, zi_eq, zi_le, zi_lt, Int32.reduceToInt, List.length_cons, List.length_nil] at *; omega)
set_option maxRecDepth 20000 in
set_option maxHeartbeats 4000000 in
theorem px_calibrate {TR : zTR} {JR : zJR} {fr : Nat} {M : zM} {I : zSI} {A : zSA} {L : zSL} (hf : 4 ≤ fr) (hX : RepX TR JR M I A L) (hV : Val I A L) (m : Int32) : zCi zX10_calibrate fr 0 0 [zr (2, 0), zi m] M (fun x M' => zEX TR JR M x (sp_calibrate I A L m) M') := by
  refine z_enter (L := [some (zr (2, 0)), some (zi m)]) rfl (by decide +kernel) (Nat.le_of_ble_eq_true rfl) ?_
  refine z_il iX10_calibrate_0 rfl ?_
  refine z_co iX10_calibrate_1 ?_
  refine z_co iX10_calibrate_3 ?_
  refine z_cs3i (fr' := fr - 1) iX10_calibrate_6 zmX10_within (c10_within _ _ _) (by omega) (Nat.le_of_ble_eq_true rfl) (fun x M1 hq => ?_)
  obtain ⟨rfl, rfl⟩ := hq
  refine z_ib_ne iX10_calibrate_9 (fun h1 => ?_) (fun h1 => ?_)
  · refine z_al iX10_calibrate_15 rfl ?_
    refine z_gf iX10_calibrate_16 hX.1.1 rfl ?_
    refine z_il iX10_calibrate_19 rfl ?_
    refine z_al iX10_calibrate_20 rfl ?_
    refine z_gf iX10_calibrate_21 hX.1.1 rfl ?_
    refine z_il iX10_calibrate_24 rfl ?_
    refine z_cv1i (fr' := fr - 1) iX10_calibrate_25 zmX4_reads hX.1.2.2.2.2.2.2 (c4_reads (f := I 4) hX.1.2.2.2.2.2.2 _) (by omega) (Nat.le_of_ble_eq_true rfl) (fun x M1 hq => ?_)
    obtain ⟨rfl, rfl⟩ := hq
    refine z_isub iX10_calibrate_28 ?_
    refine z_pf iX10_calibrate_29 hX.1.2.2.2.2.2.2 (by decide) (Nat.le_of_ble_eq_true rfl) trivial ?_
    refine z_al iX10_calibrate_32 rfl ?_
    refine z_gf iX10_calibrate_33 ((zupd_k (Nat.ne_of_beq_eq_false rfl)).trans hX.1.1) rfl ?_
    refine z_gf iX10_calibrate_36 zupd_s rfl ?_
    refine z_iret iX10_calibrate_39 rfl ?_
    refine ⟨_, rfl, ?_⟩
    unfold sp_calibrate
    repeat' split
    all_goals first | exact zEX.rd hX | exact zEX.wr ((hX.gauge (I 2) (I 3) (m - zReads (I 2) (I 3) m) rfl).congrI (fun k _ => by rw [zup_id, zup_id])) (zfx zfx_nil (by decide)) | (exfalso; simp only [true_and, and_true, false_and, and_false, true_or, or_true, false_or, or_false, not_true_eq_false, not_false_eq_true, zN, zBw, zUnd, zCor, zi_eq, zi_le, zi_lt, Int32.reduceToInt, List.length_cons, List.length_nil] at *; omega)
  · refine z_co iX10_calibrate_12 ?_
    refine z_iret iX10_calibrate_14 rfl ?_
    refine ⟨_, rfl, ?_⟩
    unfold sp_calibrate
    repeat' split
    all_goals first | exact zEX.rd hX | exact zEX.wr ((hX.gauge (I 2) (I 3) (m - zReads (I 2) (I 3) m) rfl).congrI (fun k _ => by rw [zup_id, zup_id])) (zfx zfx_nil (by decide)) | (exfalso; simp only [true_and, and_true, false_and, and_false, true_or, or_true, false_or, or_false, not_true_eq_false, not_false_eq_true, zN, zBw, zUnd, zCor, zi_eq, zi_le, zi_lt, Int32.reduceToInt, List.length_cons, List.length_nil] at *; omega)
set_option maxRecDepth 20000 in
set_option maxHeartbeats 4000000 in
theorem px_wear {TR : zTR} {JR : zJR} {fr : Nat} {M : zM} {I : zSI} {A : zSA} {L : zSL} (hf : 4 ≤ fr) (hX : RepX TR JR M I A L) (hV : Val I A L) (e : Int32) (s : Int32) (h : Int32) : zCi zX10_wear fr 0 0 [zr (2, 0), zi e, zi s, zi h] M (fun x M' => zEX TR JR M x (sp_wear I A L e s h) M') := by
  refine z_enter (L := [some (zr (2, 0)), some (zi e), some (zi s), some (zi h)]) rfl (by decide +kernel) (Nat.le_of_ble_eq_true rfl) ?_
  refine z_al iX10_wear_0 rfl ?_
  refine z_il iX10_wear_1 rfl ?_
  refine z_cv1a (fr' := fr - 1) iX10_wear_2 zmX10_edgeOf hX.1.1 (c10_edgeOf (by omega) hX hV _) (by omega) (Nat.le_of_ble_eq_true rfl) (fun x M1 hq => ?_)
  obtain ⟨rfl, rfl⟩ := hq
  refine z_as iX10_wear_5 ?_
  refine z_alo iX10_wear_7 rfl ?_
  refine z_ifnull iX10_wear_9 (fun h1 => ?_) (fun x1 h1 => ?_)
  · refine z_co iX10_wear_32 ?_
    refine z_iret iX10_wear_34 rfl ?_
    try (have hn := xo_n (by assumption : xo _ _ _ = none))
    refine ⟨_, rfl, ?_⟩
    unfold sp_wear
    repeat' split
    all_goals first | exact zEX.rd hX | (exfalso; simp only [true_and, and_true, false_and, and_false, true_or, or_true, false_or, or_false, not_true_eq_false, not_false_eq_true, zN, zBw, zUnd, zCor, zi_eq, zi_le, zi_lt, Int32.reduceToInt, List.length_cons, List.length_nil] at *; omega)
  · rw [h1]
    obtain ⟨qh1, rfl⟩ := xo_s h1
    have hedge := (hX.2.1.1 _ (zIdx qh1 hV.1.1 (by decide)).2.1).1
    refine z_il iX10_wear_12 rfl ?_
    refine z_co iX10_wear_13 ?_
    refine z_co iX10_wear_14 ?_
    refine z_cs3i (fr' := fr - 1) iX10_wear_16 zmX10_within (c10_within _ _ _) (by omega) (Nat.le_of_ble_eq_true rfl) (fun x M1 hq => ?_)
    obtain ⟨rfl, rfl⟩ := hq
    refine z_ib_eq iX10_wear_19 (fun h2 => ?_) (fun h2 => ?_)
    · refine z_co iX10_wear_32 ?_
      refine z_iret iX10_wear_34 rfl ?_
      try (have hn := xo_n (by assumption : xo _ _ _ = none))
      refine ⟨_, rfl, ?_⟩
      unfold sp_wear
      repeat' split
      all_goals first | exact zEX.rd hX | (exfalso; simp only [true_and, and_true, false_and, and_false, true_or, or_true, false_or, or_false, not_true_eq_false, not_false_eq_true, zN, zBw, zUnd, zCor, zi_eq, zi_le, zi_lt, Int32.reduceToInt, List.length_cons, List.length_nil] at *; omega)
    · refine z_il iX10_wear_22 rfl ?_
      refine z_co iX10_wear_23 ?_
      refine z_co iX10_wear_24 ?_
      refine z_cs3i (fr' := fr - 1) iX10_wear_26 zmX10_within (c10_within _ _ _) (by omega) (Nat.le_of_ble_eq_true rfl) (fun x M1 hq => ?_)
      obtain ⟨rfl, rfl⟩ := hq
      refine z_ib_ne iX10_wear_29 (fun h3 => ?_) (fun h3 => ?_)
      · refine z_al iX10_wear_35 rfl ?_
        refine z_gf iX10_wear_37 hedge rfl ?_
        refine z_il iX10_wear_40 rfl ?_
        refine z_il iX10_wear_41 rfl ?_
        refine z_cs3i (fr' := fr - 1) iX10_wear_42 zmX10_wearOf (c10_wearOf (by omega) _ _ _) (by omega) (Nat.le_of_ble_eq_true rfl) (fun x M1 hq => ?_)
        obtain ⟨rfl, rfl⟩ := hq
        refine z_iret iX10_wear_45 rfl ?_
        try (have hn := xo_n (by assumption : xo _ _ _ = none))
        refine ⟨_, rfl, ?_⟩
        unfold sp_wear
        repeat' split
        all_goals first | exact zEX.rd hX | (exfalso; simp only [true_and, and_true, false_and, and_false, true_or, or_true, false_or, or_false, not_true_eq_false, not_false_eq_true, zN, zBw, zUnd, zCor, zi_eq, zi_le, zi_lt, Int32.reduceToInt, List.length_cons, List.length_nil] at *; omega)
      · refine z_co iX10_wear_32 ?_
        refine z_iret iX10_wear_34 rfl ?_
        try (have hn := xo_n (by assumption : xo _ _ _ = none))
        refine ⟨_, rfl, ?_⟩
        unfold sp_wear
        repeat' split
        all_goals first | exact zEX.rd hX | (exfalso; simp only [true_and, and_true, false_and, and_false, true_or, or_true, false_or, or_false, not_true_eq_false, not_false_eq_true, zN, zBw, zUnd, zCor, zi_eq, zi_le, zi_lt, Int32.reduceToInt, List.length_cons, List.length_nil] at *; omega)
set_option maxRecDepth 20000 in
set_option maxHeartbeats 4000000 in
theorem px_edgeTold {TR : zTR} {JR : zJR} {fr : Nat} {M : zM} {I : zSI} {A : zSA} {L : zSL} (hf : 4 ≤ fr) (hX : RepX TR JR M I A L) (hV : Val I A L) (e : Int32) (w : Int32) : zCi zX10_edgeTold fr 0 0 [zr (2, 0), zi e, zi w] M (fun x M' => zEX TR JR M x (sp_edgeTold I A L e w) M') := by
  refine z_enter (L := [some (zr (2, 0)), some (zi e), some (zi w)]) rfl (by decide +kernel) (Nat.le_of_ble_eq_true rfl) ?_
  refine z_al iX10_edgeTold_0 rfl ?_
  refine z_il iX10_edgeTold_1 rfl ?_
  refine z_cv1a (fr' := fr - 1) iX10_edgeTold_2 zmX10_edgeOf hX.1.1 (c10_edgeOf (by omega) hX hV _) (by omega) (Nat.le_of_ble_eq_true rfl) (fun x M1 hq => ?_)
  obtain ⟨rfl, rfl⟩ := hq
  refine z_as iX10_edgeTold_5 ?_
  refine z_alo iX10_edgeTold_6 rfl ?_
  refine z_ifnonnull iX10_edgeTold_7 (fun x1 h1 => ?_) (fun h1 => ?_)
  · rw [h1]
    obtain ⟨qh1, rfl⟩ := xo_s h1
    have hedge := (hX.2.1.1 _ (zIdx qh1 hV.1.1 (by decide)).2.1).1
    refine z_il iX10_edgeTold_13 rfl ?_
    refine z_sw iX10_edgeTold_14 ⟨fun h2 => ?_, fun h2 => ?_, fun h2 => ?_, fun h2 => ?_, fun h2 => ?_, fun h2 => ?_, fun h2 => ?_, fun h2 => ?_, trivial⟩ (fun h2 => ?_)
    · refine z_al iX10_edgeTold_60 rfl ?_
      refine z_gf iX10_edgeTold_61 hedge rfl ?_
      refine z_iret iX10_edgeTold_64 rfl ?_
      try (have hn := xo_n (by assumption : xo _ _ _ = none))
      refine ⟨_, rfl, ?_⟩
      unfold sp_edgeTold
      repeat' split
      all_goals first | exact zEX.rd hX | (exfalso; simp only [true_and, and_true, false_and, and_false, true_or, or_true, false_or, or_false, not_true_eq_false, not_false_eq_true, zN, zBw, zUnd, zCor, zi_eq, zi_le, zi_lt, Int32.reduceToInt, List.length_cons, List.length_nil] at *; omega)
    · refine z_al iX10_edgeTold_65 rfl ?_
      refine z_gf iX10_edgeTold_66 hedge rfl ?_
      refine z_iret iX10_edgeTold_69 rfl ?_
      try (have hn := xo_n (by assumption : xo _ _ _ = none))
      refine ⟨_, rfl, ?_⟩
      unfold sp_edgeTold
      repeat' split
      all_goals first | exact zEX.rd hX | (exfalso; simp only [true_and, and_true, false_and, and_false, true_or, or_true, false_or, or_false, not_true_eq_false, not_false_eq_true, zN, zBw, zUnd, zCor, zi_eq, zi_le, zi_lt, Int32.reduceToInt, List.length_cons, List.length_nil] at *; omega)
    · refine z_al iX10_edgeTold_70 rfl ?_
      refine z_gf iX10_edgeTold_71 hedge rfl ?_
      refine z_iret iX10_edgeTold_74 rfl ?_
      try (have hn := xo_n (by assumption : xo _ _ _ = none))
      refine ⟨_, rfl, ?_⟩
      unfold sp_edgeTold
      repeat' split
      all_goals first | exact zEX.rd hX | (exfalso; simp only [true_and, and_true, false_and, and_false, true_or, or_true, false_or, or_false, not_true_eq_false, not_false_eq_true, zN, zBw, zUnd, zCor, zi_eq, zi_le, zi_lt, Int32.reduceToInt, List.length_cons, List.length_nil] at *; omega)
    · refine z_al iX10_edgeTold_75 rfl ?_
      refine z_gf iX10_edgeTold_76 hedge rfl ?_
      refine z_iret iX10_edgeTold_79 rfl ?_
      try (have hn := xo_n (by assumption : xo _ _ _ = none))
      refine ⟨_, rfl, ?_⟩
      unfold sp_edgeTold
      repeat' split
      all_goals first | exact zEX.rd hX | (exfalso; simp only [true_and, and_true, false_and, and_false, true_or, or_true, false_or, or_false, not_true_eq_false, not_false_eq_true, zN, zBw, zUnd, zCor, zi_eq, zi_le, zi_lt, Int32.reduceToInt, List.length_cons, List.length_nil] at *; omega)
    · refine z_al iX10_edgeTold_80 rfl ?_
      refine z_gf iX10_edgeTold_81 hedge rfl ?_
      refine z_iret iX10_edgeTold_84 rfl ?_
      try (have hn := xo_n (by assumption : xo _ _ _ = none))
      refine ⟨_, rfl, ?_⟩
      unfold sp_edgeTold
      repeat' split
      all_goals first | exact zEX.rd hX | (exfalso; simp only [true_and, and_true, false_and, and_false, true_or, or_true, false_or, or_false, not_true_eq_false, not_false_eq_true, zN, zBw, zUnd, zCor, zi_eq, zi_le, zi_lt, Int32.reduceToInt, List.length_cons, List.length_nil] at *; omega)
    · refine z_al iX10_edgeTold_85 rfl ?_
      refine z_gf iX10_edgeTold_86 hedge rfl ?_
      refine z_iret iX10_edgeTold_89 rfl ?_
      try (have hn := xo_n (by assumption : xo _ _ _ = none))
      refine ⟨_, rfl, ?_⟩
      unfold sp_edgeTold
      repeat' split
      all_goals first | exact zEX.rd hX | (exfalso; simp only [true_and, and_true, false_and, and_false, true_or, or_true, false_or, or_false, not_true_eq_false, not_false_eq_true, zN, zBw, zUnd, zCor, zi_eq, zi_le, zi_lt, Int32.reduceToInt, List.length_cons, List.length_nil] at *; omega)
    · refine z_al iX10_edgeTold_90 rfl ?_
      refine z_gf iX10_edgeTold_91 hedge rfl ?_
      refine z_iret iX10_edgeTold_94 rfl ?_
      try (have hn := xo_n (by assumption : xo _ _ _ = none))
      refine ⟨_, rfl, ?_⟩
      unfold sp_edgeTold
      repeat' split
      all_goals first | exact zEX.rd hX | (exfalso; simp only [true_and, and_true, false_and, and_false, true_or, or_true, false_or, or_false, not_true_eq_false, not_false_eq_true, zN, zBw, zUnd, zCor, zi_eq, zi_le, zi_lt, Int32.reduceToInt, List.length_cons, List.length_nil] at *; omega)
    · refine z_al iX10_edgeTold_95 rfl ?_
      refine z_gf iX10_edgeTold_96 hedge rfl ?_
      refine z_iret iX10_edgeTold_99 rfl ?_
      try (have hn := xo_n (by assumption : xo _ _ _ = none))
      refine ⟨_, rfl, ?_⟩
      unfold sp_edgeTold
      repeat' split
      all_goals first | exact zEX.rd hX | (exfalso; simp only [true_and, and_true, false_and, and_false, true_or, or_true, false_or, or_false, not_true_eq_false, not_false_eq_true, zN, zBw, zUnd, zCor, zi_eq, zi_le, zi_lt, Int32.reduceToInt, List.length_cons, List.length_nil] at *; omega)
    · refine z_co iX10_edgeTold_100 ?_
      refine z_iret iX10_edgeTold_102 rfl ?_
      try (have hn := xo_n (by assumption : xo _ _ _ = none))
      refine ⟨_, rfl, ?_⟩
      unfold sp_edgeTold
      repeat' split
      all_goals first | exact zEX.rd hX | (exfalso; simp only [true_and, and_true, false_and, and_false, true_or, or_true, false_or, or_false, not_true_eq_false, not_false_eq_true, zN, zBw, zUnd, zCor, zi_eq, zi_le, zi_lt, Int32.reduceToInt, List.length_cons, List.length_nil] at *; omega)
  · refine z_co iX10_edgeTold_10 ?_
    refine z_iret iX10_edgeTold_12 rfl ?_
    try (have hn := xo_n (by assumption : xo _ _ _ = none))
    refine ⟨_, rfl, ?_⟩
    unfold sp_edgeTold
    repeat' split
    all_goals first | exact zEX.rd hX | (exfalso; simp only [true_and, and_true, false_and, and_false, true_or, or_true, false_or, or_false, not_true_eq_false, not_false_eq_true, zN, zBw, zUnd, zCor, zi_eq, zi_le, zi_lt, Int32.reduceToInt, List.length_cons, List.length_nil] at *; omega)
