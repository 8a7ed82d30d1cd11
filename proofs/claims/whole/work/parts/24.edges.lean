theorem RepX.edge {TR : zTR} {JR : zJR} {M : zM} {I : zSI} {A A' : zSA} {L L' : zSL} (h : RepX TR JR M I A L) {e : Nat} (he : (e : Int) < (I 0).toInt) {fs : List zVal} (hfs : fs = xEdge A' L' e)
    (hA : ∀ k, 10 ≤ k → k < 30 → A' k = A k) (hj : ∀ k, k < 10 → ∀ j, j ≠ e → A' k j = A k j) (hL : ∀ j, j ≠ e → L' j = L j) : RepX TR JR (zupd M (28, e) (.inr (0, fs))) I A' L' := by
  subst hfs
  obtain ⟨h1, h2, h3, h4, h5, h6, h7, h8, h9⟩ := h
  have a10 := hA 10 (by decide) (by decide)
  have a11 := hA 11 (by decide) (by decide)
  have q := fun k h1 h2 => (hA k h1 h2).symm
  have q12 := q 12 (by decide) (by decide); have q13 := q 13 (by decide) (by decide); have q14 := q 14 (by decide) (by decide); have q15 := q 15 (by decide) (by decide); have q16 := q 16 (by decide) (by decide); have q17 := q 17 (by decide) (by decide); have q18 := q 18 (by decide) (by decide); have q19 := q 19 (by decide) (by decide); have q20 := q 20 (by decide) (by decide); have q21 := q 21 (by decide) (by decide); have q22 := q 22 (by decide) (by decide); have q23 := q 23 (by decide) (by decide); have q24 := q 24 (by decide) (by decide); have q25 := q 25 (by decide) (by decide); have q26 := q 26 (by decide) (by decide); have q27 := q 27 (by decide) (by decide); have q28 := q 28 (by decide) (by decide); have q29 := q 29 (by decide) (by decide)
  refine ⟨h1.fr fun k g1 g2 => zupd_k (show k ≠ 28 by omega), ⟨fun e' he' => ?_, fun e' he' => ?_⟩, ?_, ?_, ?_, ?_, ?_, h8.fr (zupd_k (by decide : (11 : Nat) ≠ 28)) (zupd_k (by decide : (12 : Nat) ≠ 28)) (zupd_k (by decide : (22 : Nat) ≠ 28)) (zupd_k (by decide : (13 : Nat) ≠ 28)), ?_⟩
  · obtain ⟨g1, f, g2, g3⟩ := h2.1 e' he'
    refine ⟨?_, f, (zupd_k (by decide : (29 : Nat) ≠ 28)).trans g2, by rw [a10, a11]; exact g3⟩
    by_cases z : e' = e
    · subst z; exact zupd_s
    · rw [zupd_i z, g1]
      unfold xEdge
      rw [hj 0 (by decide) _ z, hj 1 (by decide) _ z, hj 2 (by decide) _ z, hj 3 (by decide) _ z, hj 4 (by decide) _ z, hj 5 (by decide) _ z, hj 6 (by decide) _ z, hj 7 (by decide) _ z, hj 8 (by decide) _ z, hj 9 (by decide) _ z, a11, hL _ z]
  · obtain ⟨g1, g2⟩ := h2.2 e' he'
    exact ⟨(zupd_i (show e' ≠ e by omega)).trans g1, (zupd_k (by decide : (29 : Nat) ≠ 28)).trans g2⟩
  · simp only [xTo, xTool, q12, q13, q14, q15, q16, q17, q18] at h3
    exact xTo.fr (A := A') h3 (fun e => zupd_k (by decide : (30 : Nat) ≠ 28))
  · simp only [xMa, xMach, q22, q23, q24] at h4
    exact xMa.fr (A := A') h4 (fun e => zupd_k (by decide : (31 : Nat) ≠ 28)) (fun e => zupd_k (by decide : (32 : Nat) ≠ 28))
  · simp only [xSh, q26, q27, q28, q29] at h5
    exact xSh.fr (A := A') h5 (fun e => zupd_k (by decide : (26 : Nat) ≠ 28)) (fun e => zupd_k (by decide : (27 : Nat) ≠ 28))
  · simp only [xTx, q19, q20] at h6
    exact xTx.fr (A := A') h6 (fun e => zupd_k (by decide : (23 : Nat) ≠ 28)) (fun e => zupd_k (by decide : (24 : Nat) ≠ 28)) (fun e => zupd_k (by decide : (25 : Nat) ≠ 28))
  · simp only [xTa, q21] at h7
    exact xTa.fr (A := A') h7 (zupd_k (by decide : (10 : Nat) ≠ 28)) (zupd_k (by decide : (19 : Nat) ≠ 28)) (zupd_k (by decide : (20 : Nat) ≠ 28)) (zupd_k (by decide : (21 : Nat) ≠ 28))
  · simp only [xJo, q25] at h9
    exact xJo.fr (A := A') h9 (zupd_k (by decide : (9 : Nat) ≠ 28)) (zupd_k (by decide : (14 : Nat) ≠ 28)) (zupd_k (by decide : (15 : Nat) ≠ 28)) (zupd_k (by decide : (16 : Nat) ≠ 28)) (zupd_k (by decide : (17 : Nat) ≠ 28)) (fun e => zupd_k (by decide : (18 : Nat) ≠ 28))
theorem zA2_row {A : zSA} {k e i : Nat} {v : Int32} (h : i ≠ k) : zA2 A k e v i = A i := zup_n h
theorem zA2_col {A : zSA} {k e i j : Nat} {v : Int32} (h : j ≠ e) : zA2 A k e v i j = A i j := by
  unfold zA2
  by_cases q : i = k
  · subst q; rw [zup_s, zup_n h]
  · rw [zup_n q]
set_option maxRecDepth 20000 in
set_option maxHeartbeats 4000000 in
theorem c0_renew {fr : Nat} {M : zM} {a b : zAd} {y0 y1 y2 y4 y5 y6 y7 y8 y9 y10 y11 : Int32} {y12 : Int64} (h2 : 2 ≤ a.1) (hthis : M a = some (.inr (0, [zi y0, zi y1, zi y2, zr b, zi y4, zi y5, zi y6, zi y7, zi y8, zi y9, zi y10, zi y11, zl y12]))) : zCv zX0_renew fr 0 0 [zr a] M (fun M' => M' = zupd M a (.inr (0, [zi y0, zi y1, zi y2, zr b, zi y4, zi y5, zi y6, zi 0, zi 0, zi y9, zi y10, zi y11, zl 0]))) := by
  refine z_enter (L := [some (zr a)]) rfl (by decide +kernel) (Nat.le_of_ble_eq_true rfl) ?_
  refine z_al iX0_renew_0 rfl ?_
  refine z_cl iX0_renew_1 ?_
  refine z_pf iX0_renew_2 hthis h2 (Nat.le_of_ble_eq_true rfl) trivial ?_
  refine z_al iX0_renew_5 rfl ?_
  refine z_co iX0_renew_6 ?_
  refine z_pf2 iX0_renew_7 h2 (Nat.le_of_ble_eq_true rfl) trivial ?_
  refine z_al iX0_renew_10 rfl ?_
  refine z_co iX0_renew_11 ?_
  refine z_pf2 iX0_renew_12 h2 (Nat.le_of_ble_eq_true rfl) trivial ?_
  refine z_vret iX0_renew_15 rfl ?_
  exact ⟨rfl, rfl⟩
set_option maxRecDepth 20000 in
set_option maxHeartbeats 4000000 in
theorem c11_fresh {fr : Nat} {M : zM} {I J : zSI} {A : zSA} {L : zSL} {K : Int64} (hR : RepM M I A L J K) (e : Int32) {j : Nat} (hi : e.toInt = (j : Int)) (hj : j < 24) : zCv zX11_fresh fr 0 0 [zr (40, 0), zi e] M (fun M' => (∀ a : zAd, a.1 < 40 → M' a = M a) ∧ RepM M' I (zA2 (zA2 A 6 j 0) 5 j 0) (zup L j 0) J K) := by
  refine z_enter (L := [some (zr (40, 0)), some (zi e)]) rfl (by decide +kernel) (Nat.le_of_ble_eq_true rfl) ?_
  refine z_al iX11_fresh_0 rfl ?_
  refine z_gf iX11_fresh_1 hR.1 rfl ?_
  refine z_il iX11_fresh_4 rfl ?_
  refine z_co iX11_fresh_5 ?_
  refine z_iast iX11_fresh_6 (hR.2.1 6 (by decide)) (by decide) hi hj ?_
  refine z_al iX11_fresh_7 rfl ?_
  refine z_gf iX11_fresh_8 ((zupd_k (Nat.ne_of_beq_eq_false rfl)).trans hR.1) rfl ?_
  refine z_il iX11_fresh_11 rfl ?_
  refine z_cl iX11_fresh_12 ?_
  refine z_last iX11_fresh_13 ((zupd_k (Nat.ne_of_beq_eq_false rfl)).trans hR.2.2) (by decide) hi hj ?_
  refine z_al iX11_fresh_14 rfl ?_
  refine z_gf iX11_fresh_15 ((zupd_k (Nat.ne_of_beq_eq_false rfl)).trans ((zupd_k (Nat.ne_of_beq_eq_false rfl)).trans hR.1)) rfl ?_
  refine z_il iX11_fresh_18 rfl ?_
  refine z_co iX11_fresh_19 ?_
  refine z_iast iX11_fresh_20 ((zupd_k (Nat.ne_of_beq_eq_false rfl)).trans ((zupd_i (Nat.ne_of_beq_eq_false rfl)).trans (hR.2.1 5 (by decide)))) (by decide) hi hj ?_
  refine z_vret iX11_fresh_21 rfl ?_
  exact ⟨rfl, zfr (zfr (zfr zfr_nil (by decide)) (by decide)) (by decide), ((hR.arr 6 (zup (A 6) j 0)).wear (L' := zup L j 0)).arr 5 (zup (A 5) j 0)⟩
set_option maxRecDepth 20000 in
set_option maxHeartbeats 4000000 in
theorem pm_turn {fr : Nat} {M : zM} {I J : zSI} {A : zSA} {L : zSL} {K : Int64} (hf : 3 ≤ fr) (hR : RepM M I A L J K) (hV : Val I A L) (e : Int32) : zCi zX11_turn fr 0 0 [zr (40, 0), zi e] M (fun x M' => zEM M x (sp_turn I A L e) M') := by
  refine z_enter (L := [some (zr (40, 0)), some (zi e)]) rfl (by decide +kernel) (Nat.le_of_ble_eq_true rfl) ?_
  refine z_al iX11_turn_0 rfl ?_
  refine z_il iX11_turn_1 rfl ?_
  refine z_cv1i (fr' := fr - 1) iX11_turn_2 zmX11_isEdge hR.1 (c11_isEdge (by omega) hR _) (by omega) (Nat.le_of_ble_eq_true rfl) (fun x M1 hq => ?_)
  obtain ⟨rfl, rfl⟩ := hq
  refine z_ib_ne iX11_turn_5 (fun h1 => ?_) (fun h1 => ?_)
  · refine z_al iX11_turn_11 rfl ?_
    refine z_gf iX11_turn_12 hR.1 rfl ?_
    refine z_il iX11_turn_15 rfl ?_
    refine z_iald iX11_turn_16 (hR.2.1 0 (by decide)) (zIdx h1 hV.1.1 (by decide)).1 (zLt (zIdx h1 hV.1.1 (by decide)).2.2) ?_
    refine z_cs1i (fr' := fr - 1) iX11_turn_17 zmX11_hasCorners (c11_hasCorners _) (by omega) (Nat.le_of_ble_eq_true rfl) (fun x M1 hq => ?_)
    obtain ⟨rfl, rfl⟩ := hq
    refine z_ib_ne iX11_turn_20 (fun h2 => ?_) (fun h2 => ?_)
    · refine z_al iX11_turn_26 rfl ?_
      refine z_gf iX11_turn_27 hR.1 rfl ?_
      refine z_il iX11_turn_30 rfl ?_
      refine z_iald iX11_turn_31 (hR.2.1 5 (by decide)) (zIdx h1 hV.1.1 (by decide)).1 (zLt (zIdx h1 hV.1.1 (by decide)).2.2) ?_
      refine z_co iX11_turn_32 ?_
      refine z_icmp_eq iX11_turn_33 (fun h3 => ?_) (fun h3 => ?_)
      · refine z_co iX11_turn_45 ?_
        refine z_iret iX11_turn_47 rfl ?_
        refine ⟨_, rfl, ?_⟩
        unfold sp_turn
        repeat' split
        all_goals first | exact zEM.rd hR | (exfalso; simp only [true_and, and_true, false_and, and_false, true_or, or_true, false_or, or_false, not_true_eq_false, not_false_eq_true, zN, zBw, zUnd, zCor, zi_eq, zi_le, zi_lt, Int32.reduceToInt, List.length_cons, List.length_nil] at *; omega)
      · refine z_al iX11_turn_36 rfl ?_
        refine z_gf iX11_turn_37 hR.1 rfl ?_
        refine z_il iX11_turn_40 rfl ?_
        refine z_iald iX11_turn_41 (hR.2.1 3 (by decide)) (zIdx h1 hV.1.1 (by decide)).1 (zLt (zIdx h1 hV.1.1 (by decide)).2.2) ?_
        refine z_if_ne iX11_turn_42 (fun h4 => ?_) (fun h4 => ?_)
        · refine z_al iX11_turn_48 rfl ?_
          refine z_gf iX11_turn_49 hR.1 rfl ?_
          refine z_il iX11_turn_52 rfl ?_
          refine z_dup2 iX11_turn_53 ?_
          refine z_iald iX11_turn_54 (hR.2.1 3 (by decide)) (zIdx h1 hV.1.1 (by decide)).1 (zLt (zIdx h1 hV.1.1 (by decide)).2.2) ?_
          refine z_co iX11_turn_55 ?_
          refine z_isub iX11_turn_56 ?_
          refine z_iast iX11_turn_57 (hR.2.1 3 (by decide)) (by decide) (zIdx h1 hV.1.1 (by decide)).1 (zLt (zIdx h1 hV.1.1 (by decide)).2.2) ?_
          refine z_al iX11_turn_58 rfl ?_
          refine z_il iX11_turn_59 rfl ?_
          refine z_cv1v (fr' := fr - 1) iX11_turn_60 zmX11_fresh ((zupd_k (Nat.ne_of_beq_eq_false rfl)).trans hR.1) (c11_fresh (hR.arr 3 _) _ (zIdx h1 hV.1.1 (by decide)).1 (zLt (zIdx h1 hV.1.1 (by decide)).2.2)) (by omega) (Nat.le_of_ble_eq_true rfl) (fun M1 hq => ?_)
          obtain ⟨hfr3, hR⟩ := hq
          refine z_al iX11_turn_63 rfl ?_
          refine z_gf iX11_turn_64 hR.1 rfl ?_
          refine z_il iX11_turn_67 rfl ?_
          refine z_iald iX11_turn_68 (hR.2.1 3 (by decide)) (zIdx h1 hV.1.1 (by decide)).1 (zLt (zIdx h1 hV.1.1 (by decide)).2.2) ?_
          refine z_iret iX11_turn_69 rfl ?_
          refine ⟨_, rfl, ?_⟩
          unfold sp_turn
          repeat' split
          all_goals first | exact zEM.rd hR | exact ⟨by simp [zA2, zup], fun a ha => (hfr3 a ha).trans (zfr zfr_nil (by decide) a ha), _, _, _, fun _ _ => rfl, hR⟩ | (exfalso; simp only [true_and, and_true, false_and, and_false, true_or, or_true, false_or, or_false, not_true_eq_false, not_false_eq_true, zN, zBw, zUnd, zCor, zi_eq, zi_le, zi_lt, Int32.reduceToInt, List.length_cons, List.length_nil] at *; omega)
        · refine z_co iX11_turn_45 ?_
          refine z_iret iX11_turn_47 rfl ?_
          refine ⟨_, rfl, ?_⟩
          unfold sp_turn
          repeat' split
          all_goals first | exact zEM.rd hR | (exfalso; simp only [true_and, and_true, false_and, and_false, true_or, or_true, false_or, or_false, not_true_eq_false, not_false_eq_true, zN, zBw, zUnd, zCor, zi_eq, zi_le, zi_lt, Int32.reduceToInt, List.length_cons, List.length_nil] at *; omega)
    · refine z_co iX11_turn_23 ?_
      refine z_iret iX11_turn_25 rfl ?_
      refine ⟨_, rfl, ?_⟩
      unfold sp_turn
      repeat' split
      all_goals first | exact zEM.rd hR | (exfalso; simp only [true_and, and_true, false_and, and_false, true_or, or_true, false_or, or_false, not_true_eq_false, not_false_eq_true, zN, zBw, zUnd, zCor, zi_eq, zi_le, zi_lt, Int32.reduceToInt, List.length_cons, List.length_nil] at *; omega)
  · refine z_co iX11_turn_8 ?_
    refine z_iret iX11_turn_10 rfl ?_
    refine ⟨_, rfl, ?_⟩
    unfold sp_turn
    repeat' split
    all_goals first | exact zEM.rd hR | (exfalso; simp only [true_and, and_true, false_and, and_false, true_or, or_true, false_or, or_false, not_true_eq_false, not_false_eq_true, zN, zBw, zUnd, zCor, zi_eq, zi_le, zi_lt, Int32.reduceToInt, List.length_cons, List.length_nil] at *; omega)
set_option maxRecDepth 20000 in
set_option maxHeartbeats 4000000 in
theorem pm_grind {fr : Nat} {M : zM} {I J : zSI} {A : zSA} {L : zSL} {K : Int64} (hf : 3 ≤ fr) (hR : RepM M I A L J K) (hV : Val I A L) (e : Int32) (n : Int32) : zCi zX11_grind fr 0 0 [zr (40, 0), zi e, zi n] M (fun x M' => zEM M x (sp_grind I A L e n) M') := by
  refine z_enter (L := [some (zr (40, 0)), some (zi e), some (zi n)]) rfl (by decide +kernel) (Nat.le_of_ble_eq_true rfl) ?_
  refine z_al iX11_grind_0 rfl ?_
  refine z_il iX11_grind_1 rfl ?_
  refine z_cv1i (fr' := fr - 1) iX11_grind_2 zmX11_isEdge hR.1 (c11_isEdge (by omega) hR _) (by omega) (Nat.le_of_ble_eq_true rfl) (fun x M1 hq => ?_)
  obtain ⟨rfl, rfl⟩ := hq
  refine z_ib_eq iX11_grind_5 (fun h1 => ?_) (fun h1 => ?_)
  · refine z_co iX11_grind_18 ?_
    refine z_iret iX11_grind_20 rfl ?_
    refine ⟨_, rfl, ?_⟩
    unfold sp_grind
    repeat' split
    all_goals first | exact zEM.rd hR | (exfalso; simp only [true_and, and_true, false_and, and_false, true_or, or_true, false_or, or_false, not_true_eq_false, not_false_eq_true, zN, zBw, zUnd, zCor, zi_eq, zi_le, zi_lt, Int32.reduceToInt, List.length_cons, List.length_nil] at *; omega)
  · refine z_il iX11_grind_8 rfl ?_
    refine z_co iX11_grind_9 ?_
    refine z_co iX11_grind_10 ?_
    refine z_cs3i (fr' := fr - 1) iX11_grind_12 zmX11_in (c11_in _ _ _) (by omega) (Nat.le_of_ble_eq_true rfl) (fun x M1 hq => ?_)
    obtain ⟨rfl, rfl⟩ := hq
    refine z_ib_ne iX11_grind_15 (fun h2 => ?_) (fun h2 => ?_)
    · refine z_al iX11_grind_21 rfl ?_
      refine z_gf iX11_grind_22 hR.1 rfl ?_
      refine z_il iX11_grind_25 rfl ?_
      refine z_iald iX11_grind_26 (hR.2.1 0 (by decide)) (zIdx h1 hV.1.1 (by decide)).1 (zLt (zIdx h1 hV.1.1 (by decide)).2.2) ?_
      refine z_cs1i (fr' := fr - 1) iX11_grind_27 zmX11_hasCorners (c11_hasCorners _) (by omega) (Nat.le_of_ble_eq_true rfl) (fun x M1 hq => ?_)
      obtain ⟨rfl, rfl⟩ := hq
      refine z_ib_eq iX11_grind_30 (fun h3 => ?_) (fun h3 => ?_)
      · refine z_al iX11_grind_36 rfl ?_
        refine z_gf iX11_grind_37 hR.1 rfl ?_
        refine z_il iX11_grind_40 rfl ?_
        refine z_iald iX11_grind_41 (hR.2.1 5 (by decide)) (zIdx h1 hV.1.1 (by decide)).1 (zLt (zIdx h1 hV.1.1 (by decide)).2.2) ?_
        refine z_co iX11_grind_42 ?_
        refine z_icmp_eq iX11_grind_43 (fun h4 => ?_) (fun h4 => ?_)
        · refine z_co iX11_grind_63 ?_
          refine z_iret iX11_grind_65 rfl ?_
          refine ⟨_, rfl, ?_⟩
          unfold sp_grind
          repeat' split
          all_goals first | exact zEM.rd hR | (exfalso; simp only [true_and, and_true, false_and, and_false, true_or, or_true, false_or, or_false, not_true_eq_false, not_false_eq_true, zN, zBw, zUnd, zCor, zi_eq, zi_le, zi_lt, Int32.reduceToInt, List.length_cons, List.length_nil] at *; omega)
        · refine z_al iX11_grind_46 rfl ?_
          refine z_gf iX11_grind_47 hR.1 rfl ?_
          refine z_il iX11_grind_50 rfl ?_
          refine z_iald iX11_grind_51 (hR.2.1 1 (by decide)) (zIdx h1 hV.1.1 (by decide)).1 (zLt (zIdx h1 hV.1.1 (by decide)).2.2) ?_
          refine z_il iX11_grind_52 rfl ?_
          refine z_isub iX11_grind_53 ?_
          refine z_al iX11_grind_54 rfl ?_
          refine z_gf iX11_grind_55 hR.1 rfl ?_
          refine z_il iX11_grind_58 rfl ?_
          refine z_iald iX11_grind_59 (hR.2.1 2 (by decide)) (zIdx h1 hV.1.1 (by decide)).1 (zLt (zIdx h1 hV.1.1 (by decide)).2.2) ?_
          refine z_icmp_ge iX11_grind_60 (fun h5 => ?_) (fun h5 => ?_)
          · refine z_al iX11_grind_66 rfl ?_
            refine z_gf iX11_grind_67 hR.1 rfl ?_
            refine z_il iX11_grind_70 rfl ?_
            refine z_dup2 iX11_grind_71 ?_
            refine z_iald iX11_grind_72 (hR.2.1 1 (by decide)) (zIdx h1 hV.1.1 (by decide)).1 (zLt (zIdx h1 hV.1.1 (by decide)).2.2) ?_
            refine z_il iX11_grind_73 rfl ?_
            refine z_isub iX11_grind_74 ?_
            refine z_iast iX11_grind_75 (hR.2.1 1 (by decide)) (by decide) (zIdx h1 hV.1.1 (by decide)).1 (zLt (zIdx h1 hV.1.1 (by decide)).2.2) ?_
            refine z_al iX11_grind_76 rfl ?_
            refine z_il iX11_grind_77 rfl ?_
            refine z_cv1v (fr' := fr - 1) iX11_grind_78 zmX11_fresh ((zupd_k (Nat.ne_of_beq_eq_false rfl)).trans hR.1) (c11_fresh (hR.arr 1 _) _ (zIdx h1 hV.1.1 (by decide)).1 (zLt (zIdx h1 hV.1.1 (by decide)).2.2)) (by omega) (Nat.le_of_ble_eq_true rfl) (fun M1 hq => ?_)
            obtain ⟨hfr3, hR⟩ := hq
            refine z_al iX11_grind_81 rfl ?_
            refine z_gf iX11_grind_82 hR.1 rfl ?_
            refine z_il iX11_grind_85 rfl ?_
            refine z_iald iX11_grind_86 (hR.2.1 1 (by decide)) (zIdx h1 hV.1.1 (by decide)).1 (zLt (zIdx h1 hV.1.1 (by decide)).2.2) ?_
            refine z_iret iX11_grind_87 rfl ?_
            refine ⟨_, rfl, ?_⟩
            unfold sp_grind
            repeat' split
            all_goals first | exact zEM.rd hR | exact ⟨by simp [zA2, zup], fun a ha => (hfr3 a ha).trans (zfr zfr_nil (by decide) a ha), _, _, _, fun _ _ => rfl, hR⟩ | (exfalso; simp only [true_and, and_true, false_and, and_false, true_or, or_true, false_or, or_false, not_true_eq_false, not_false_eq_true, zN, zBw, zUnd, zCor, zi_eq, zi_le, zi_lt, Int32.reduceToInt, List.length_cons, List.length_nil] at *; omega)
          · refine z_co iX11_grind_63 ?_
            refine z_iret iX11_grind_65 rfl ?_
            refine ⟨_, rfl, ?_⟩
            unfold sp_grind
            repeat' split
            all_goals first | exact zEM.rd hR | (exfalso; simp only [true_and, and_true, false_and, and_false, true_or, or_true, false_or, or_false, not_true_eq_false, not_false_eq_true, zN, zBw, zUnd, zCor, zi_eq, zi_le, zi_lt, Int32.reduceToInt, List.length_cons, List.length_nil] at *; omega)
      · refine z_co iX11_grind_33 ?_
        refine z_iret iX11_grind_35 rfl ?_
        refine ⟨_, rfl, ?_⟩
        unfold sp_grind
        repeat' split
        all_goals first | exact zEM.rd hR | (exfalso; simp only [true_and, and_true, false_and, and_false, true_or, or_true, false_or, or_false, not_true_eq_false, not_false_eq_true, zN, zBw, zUnd, zCor, zi_eq, zi_le, zi_lt, Int32.reduceToInt, List.length_cons, List.length_nil] at *; omega)
    · refine z_co iX11_grind_18 ?_
      refine z_iret iX11_grind_20 rfl ?_
      refine ⟨_, rfl, ?_⟩
      unfold sp_grind
      repeat' split
      all_goals first | exact zEM.rd hR | (exfalso; simp only [true_and, and_true, false_and, and_false, true_or, or_true, false_or, or_false, not_true_eq_false, not_false_eq_true, zN, zBw, zUnd, zCor, zi_eq, zi_le, zi_lt, Int32.reduceToInt, List.length_cons, List.length_nil] at *; omega)
set_option maxRecDepth 20000 in
set_option maxHeartbeats 4000000 in
theorem px_turn {TR : zTR} {JR : zJR} {fr : Nat} {M : zM} {I : zSI} {A : zSA} {L : zSL} (hf : 4 ≤ fr) (hX : RepX TR JR M I A L) (hV : Val I A L) (e : Int32) : zCi zX10_turn fr 0 0 [zr (2, 0), zi e] M (fun x M' => zEX TR JR M x (sp_turn I A L e) M') := by
  refine z_enter (L := [some (zr (2, 0)), some (zi e)]) rfl (by decide +kernel) (Nat.le_of_ble_eq_true rfl) ?_
  refine z_al iX10_turn_0 rfl ?_
  refine z_il iX10_turn_1 rfl ?_
  refine z_cv1a (fr' := fr - 1) iX10_turn_2 zmX10_edgeOf hX.1.1 (c10_edgeOf (by omega) hX hV _) (by omega) (Nat.le_of_ble_eq_true rfl) (fun x M1 hq => ?_)
  obtain ⟨rfl, rfl⟩ := hq
  refine z_as iX10_turn_5 ?_
  refine z_alo iX10_turn_6 rfl ?_
  refine z_ifnonnull iX10_turn_7 (fun x1 h1 => ?_) (fun h1 => ?_)
  · rw [h1]
    obtain ⟨qh1, rfl⟩ := xo_s h1
    have hedge := (hX.2.1.1 _ (zIdx qh1 hV.1.1 (by decide)).2.1).1
    refine z_al iX10_turn_13 rfl ?_
    refine z_gf iX10_turn_14 hedge rfl ?_
    refine z_co iX10_turn_17 ?_
    refine z_cs2i (fr' := fr - 1) iX10_turn_18 zmX10_isUnder (c10_isUnder _ _) (by omega) (Nat.le_of_ble_eq_true rfl) (fun x M1 hq => ?_)
    obtain ⟨rfl, rfl⟩ := hq
    refine z_ib_ne iX10_turn_21 (fun h2 => ?_) (fun h2 => ?_)
    · refine z_al iX10_turn_27 rfl ?_
      refine z_gf iX10_turn_28 hedge rfl ?_
      refine z_co iX10_turn_31 ?_
      refine z_icmp_eq iX10_turn_32 (fun h3 => ?_) (fun h3 => ?_)
      · refine z_co iX10_turn_42 ?_
        refine z_iret iX10_turn_44 rfl ?_
        try (have hn := xo_n (by assumption : xo _ _ _ = none))
        refine ⟨_, rfl, ?_⟩
        unfold sp_turn
        repeat' split
        all_goals first | exact zEX.rd hX | (exfalso; simp only [true_and, and_true, false_and, and_false, true_or, or_true, false_or, or_false, not_true_eq_false, not_false_eq_true, zN, zBw, zUnd, zCor, zi_eq, zi_le, zi_lt, Int32.reduceToInt, List.length_cons, List.length_nil] at *; omega)
      · refine z_al iX10_turn_35 rfl ?_
        refine z_gf iX10_turn_36 hedge rfl ?_
        refine z_if_ne iX10_turn_39 (fun h4 => ?_) (fun h4 => ?_)
        · refine z_al iX10_turn_45 rfl ?_
          refine z_dup iX10_turn_46 ?_
          refine z_gf iX10_turn_47 hedge rfl ?_
          refine z_co iX10_turn_50 ?_
          refine z_isub iX10_turn_51 ?_
          refine z_pf iX10_turn_52 hedge (by decide : 2 ≤ 28) (Nat.le_of_ble_eq_true rfl) trivial ?_
          refine z_al iX10_turn_55 rfl ?_
          refine z_cv0v (fr' := fr - 1) iX10_turn_56 zmX0_renew zupd_s (c0_renew (show 2 ≤ 28 by decide) zupd_s) (by omega) (Nat.le_of_ble_eq_true rfl) (fun M1 hq => ?_)
          subst hq
          rw [zupd_u]
          refine z_al iX10_turn_59 rfl ?_
          refine z_gf iX10_turn_60 zupd_s rfl ?_
          refine z_iret iX10_turn_63 rfl ?_
          try (have hn := xo_n (by assumption : xo _ _ _ = none))
          refine ⟨_, rfl, ?_⟩
          unfold sp_turn
          repeat' split
          all_goals first | exact zEX.rd hX | exact ⟨rfl, zfx zfx_nil ⟨(by decide : 2 ≤ 28), (by decide : 28 < 40)⟩, hX.edge (A' := zA2 (zA2 (zA2 A 3 (zN e) (A 3 (zN e) - 1)) 6 (zN e) 0) 5 (zN e) 0) (L' := zup L (zN e) 0) (zIdx qh1 hV.1.1 (by decide)).2.1 (by simp [xEdge, zA2, zup]) (fun k g1 g2 => by rw [zA2_row (by omega), zA2_row (by omega), zA2_row (by omega)]) (fun k g1 j g2 => by rw [zA2_col g2, zA2_col g2, zA2_col g2]) (fun j g => zup_n g)⟩ | (exfalso; simp only [true_and, and_true, false_and, and_false, true_or, or_true, false_or, or_false, not_true_eq_false, not_false_eq_true, zN, zBw, zUnd, zCor, zi_eq, zi_le, zi_lt, Int32.reduceToInt, List.length_cons, List.length_nil] at *; omega)
        · refine z_co iX10_turn_42 ?_
          refine z_iret iX10_turn_44 rfl ?_
          try (have hn := xo_n (by assumption : xo _ _ _ = none))
          refine ⟨_, rfl, ?_⟩
          unfold sp_turn
          repeat' split
          all_goals first | exact zEX.rd hX | (exfalso; simp only [true_and, and_true, false_and, and_false, true_or, or_true, false_or, or_false, not_true_eq_false, not_false_eq_true, zN, zBw, zUnd, zCor, zi_eq, zi_le, zi_lt, Int32.reduceToInt, List.length_cons, List.length_nil] at *; omega)
    · refine z_co iX10_turn_24 ?_
      refine z_iret iX10_turn_26 rfl ?_
      try (have hn := xo_n (by assumption : xo _ _ _ = none))
      refine ⟨_, rfl, ?_⟩
      unfold sp_turn
      repeat' split
      all_goals first | exact zEX.rd hX | (exfalso; simp only [true_and, and_true, false_and, and_false, true_or, or_true, false_or, or_false, not_true_eq_false, not_false_eq_true, zN, zBw, zUnd, zCor, zi_eq, zi_le, zi_lt, Int32.reduceToInt, List.length_cons, List.length_nil] at *; omega)
  · refine z_co iX10_turn_10 ?_
    refine z_iret iX10_turn_12 rfl ?_
    try (have hn := xo_n (by assumption : xo _ _ _ = none))
    refine ⟨_, rfl, ?_⟩
    unfold sp_turn
    repeat' split
    all_goals first | exact zEX.rd hX | (exfalso; simp only [true_and, and_true, false_and, and_false, true_or, or_true, false_or, or_false, not_true_eq_false, not_false_eq_true, zN, zBw, zUnd, zCor, zi_eq, zi_le, zi_lt, Int32.reduceToInt, List.length_cons, List.length_nil] at *; omega)
set_option maxRecDepth 20000 in
set_option maxHeartbeats 4000000 in
theorem px_grind {TR : zTR} {JR : zJR} {fr : Nat} {M : zM} {I : zSI} {A : zSA} {L : zSL} (hf : 4 ≤ fr) (hX : RepX TR JR M I A L) (hV : Val I A L) (e : Int32) (n : Int32) : zCi zX10_grind fr 0 0 [zr (2, 0), zi e, zi n] M (fun x M' => zEX TR JR M x (sp_grind I A L e n) M') := by
  refine z_enter (L := [some (zr (2, 0)), some (zi e), some (zi n)]) rfl (by decide +kernel) (Nat.le_of_ble_eq_true rfl) ?_
  refine z_al iX10_grind_0 rfl ?_
  refine z_il iX10_grind_1 rfl ?_
  refine z_cv1a (fr' := fr - 1) iX10_grind_2 zmX10_edgeOf hX.1.1 (c10_edgeOf (by omega) hX hV _) (by omega) (Nat.le_of_ble_eq_true rfl) (fun x M1 hq => ?_)
  obtain ⟨rfl, rfl⟩ := hq
  refine z_as iX10_grind_5 ?_
  refine z_alo iX10_grind_6 rfl ?_
  refine z_ifnull iX10_grind_7 (fun h1 => ?_) (fun x1 h1 => ?_)
  · refine z_co iX10_grind_20 ?_
    refine z_iret iX10_grind_22 rfl ?_
    try (have hn := xo_n (by assumption : xo _ _ _ = none))
    refine ⟨_, rfl, ?_⟩
    unfold sp_grind
    repeat' split
    all_goals first | exact zEX.rd hX | (exfalso; simp only [true_and, and_true, false_and, and_false, true_or, or_true, false_or, or_false, not_true_eq_false, not_false_eq_true, zN, zBw, zUnd, zCor, zi_eq, zi_le, zi_lt, Int32.reduceToInt, List.length_cons, List.length_nil] at *; omega)
  · rw [h1]
    obtain ⟨qh1, rfl⟩ := xo_s h1
    have hedge := (hX.2.1.1 _ (zIdx qh1 hV.1.1 (by decide)).2.1).1
    refine z_il iX10_grind_10 rfl ?_
    refine z_co iX10_grind_11 ?_
    refine z_co iX10_grind_12 ?_
    refine z_cs3i (fr' := fr - 1) iX10_grind_14 zmX10_within (c10_within _ _ _) (by omega) (Nat.le_of_ble_eq_true rfl) (fun x M1 hq => ?_)
    obtain ⟨rfl, rfl⟩ := hq
    refine z_ib_ne iX10_grind_17 (fun h2 => ?_) (fun h2 => ?_)
    · refine z_al iX10_grind_23 rfl ?_
      refine z_gf iX10_grind_24 hedge rfl ?_
      refine z_co iX10_grind_27 ?_
      refine z_cs2i (fr' := fr - 1) iX10_grind_28 zmX10_isUnder (c10_isUnder _ _) (by omega) (Nat.le_of_ble_eq_true rfl) (fun x M1 hq => ?_)
      obtain ⟨rfl, rfl⟩ := hq
      refine z_ib_eq iX10_grind_31 (fun h3 => ?_) (fun h3 => ?_)
      · refine z_al iX10_grind_37 rfl ?_
        refine z_gf iX10_grind_38 hedge rfl ?_
        refine z_co iX10_grind_41 ?_
        refine z_icmp_eq iX10_grind_42 (fun h4 => ?_) (fun h4 => ?_)
        · refine z_co iX10_grind_58 ?_
          refine z_iret iX10_grind_60 rfl ?_
          try (have hn := xo_n (by assumption : xo _ _ _ = none))
          refine ⟨_, rfl, ?_⟩
          unfold sp_grind
          repeat' split
          all_goals first | exact zEX.rd hX | (exfalso; simp only [true_and, and_true, false_and, and_false, true_or, or_true, false_or, or_false, not_true_eq_false, not_false_eq_true, zN, zBw, zUnd, zCor, zi_eq, zi_le, zi_lt, Int32.reduceToInt, List.length_cons, List.length_nil] at *; omega)
        · refine z_al iX10_grind_45 rfl ?_
          refine z_gf iX10_grind_46 hedge rfl ?_
          refine z_il iX10_grind_49 rfl ?_
          refine z_isub iX10_grind_50 ?_
          refine z_al iX10_grind_51 rfl ?_
          refine z_gf iX10_grind_52 hedge rfl ?_
          refine z_icmp_ge iX10_grind_55 (fun h5 => ?_) (fun h5 => ?_)
          · refine z_al iX10_grind_61 rfl ?_
            refine z_dup iX10_grind_62 ?_
            refine z_gf iX10_grind_63 hedge rfl ?_
            refine z_il iX10_grind_66 rfl ?_
            refine z_isub iX10_grind_67 ?_
            refine z_pf iX10_grind_68 hedge (by decide : 2 ≤ 28) (Nat.le_of_ble_eq_true rfl) trivial ?_
            refine z_al iX10_grind_71 rfl ?_
            refine z_cv0v (fr' := fr - 1) iX10_grind_72 zmX0_renew zupd_s (c0_renew (show 2 ≤ 28 by decide) zupd_s) (by omega) (Nat.le_of_ble_eq_true rfl) (fun M1 hq => ?_)
            subst hq
            rw [zupd_u]
            refine z_al iX10_grind_75 rfl ?_
            refine z_gf iX10_grind_76 zupd_s rfl ?_
            refine z_iret iX10_grind_79 rfl ?_
            try (have hn := xo_n (by assumption : xo _ _ _ = none))
            refine ⟨_, rfl, ?_⟩
            unfold sp_grind
            repeat' split
            all_goals first | exact zEX.rd hX | exact ⟨rfl, zfx zfx_nil ⟨(by decide : 2 ≤ 28), (by decide : 28 < 40)⟩, hX.edge (A' := zA2 (zA2 (zA2 A 1 (zN e) (A 1 (zN e) - n)) 6 (zN e) 0) 5 (zN e) 0) (L' := zup L (zN e) 0) (zIdx qh1 hV.1.1 (by decide)).2.1 (by simp [xEdge, zA2, zup]) (fun k g1 g2 => by rw [zA2_row (by omega), zA2_row (by omega), zA2_row (by omega)]) (fun k g1 j g2 => by rw [zA2_col g2, zA2_col g2, zA2_col g2]) (fun j g => zup_n g)⟩ | (exfalso; simp only [true_and, and_true, false_and, and_false, true_or, or_true, false_or, or_false, not_true_eq_false, not_false_eq_true, zN, zBw, zUnd, zCor, zi_eq, zi_le, zi_lt, Int32.reduceToInt, List.length_cons, List.length_nil] at *; omega)
          · refine z_co iX10_grind_58 ?_
            refine z_iret iX10_grind_60 rfl ?_
            try (have hn := xo_n (by assumption : xo _ _ _ = none))
            refine ⟨_, rfl, ?_⟩
            unfold sp_grind
            repeat' split
            all_goals first | exact zEX.rd hX | (exfalso; simp only [true_and, and_true, false_and, and_false, true_or, or_true, false_or, or_false, not_true_eq_false, not_false_eq_true, zN, zBw, zUnd, zCor, zi_eq, zi_le, zi_lt, Int32.reduceToInt, List.length_cons, List.length_nil] at *; omega)
      · refine z_co iX10_grind_34 ?_
        refine z_iret iX10_grind_36 rfl ?_
        try (have hn := xo_n (by assumption : xo _ _ _ = none))
        refine ⟨_, rfl, ?_⟩
        unfold sp_grind
        repeat' split
        all_goals first | exact zEX.rd hX | (exfalso; simp only [true_and, and_true, false_and, and_false, true_or, or_true, false_or, or_false, not_true_eq_false, not_false_eq_true, zN, zBw, zUnd, zCor, zi_eq, zi_le, zi_lt, Int32.reduceToInt, List.length_cons, List.length_nil] at *; omega)
    · refine z_co iX10_grind_20 ?_
      refine z_iret iX10_grind_22 rfl ?_
      try (have hn := xo_n (by assumption : xo _ _ _ = none))
      refine ⟨_, rfl, ?_⟩
      unfold sp_grind
      repeat' split
      all_goals first | exact zEX.rd hX | (exfalso; simp only [true_and, and_true, false_and, and_false, true_or, or_true, false_or, or_false, not_true_eq_false, not_false_eq_true, zN, zBw, zUnd, zCor, zi_eq, zi_le, zi_lt, Int32.reduceToInt, List.length_cons, List.length_nil] at *; omega)
