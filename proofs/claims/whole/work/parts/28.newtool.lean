theorem zAne {k : Nat} {e : Nat} {a : zAd} (h : k ≠ a.1) : ((k, e) : zAd) ≠ a := fun q => h (congrArg Prod.fst q)
theorem RepX.newTool {TR : zTR} {JR : zJR} {M M' : zM} {I : zSI} {A A' : zSA} {L : zSL} (h : RepX TR JR M I A L) {t e : Nat} (ht : (I 1).toInt = (t : Int)) (ht2 : t < 10) (he : (e : Int) < (I 0).toInt)
    (h0 : ∀ a : zAd, a ≠ (30, t) → a ≠ (28, e) → a ≠ (4, 0) → a ≠ (2, 0) → M' a = M a) (h30 : M' (30, t) = some (.inr (9, xTool A' t))) (h28 : M' (28, e) = some (.inr (0, xEdge A' L e)))
    (h4 : M' (4, 0) = some (.inl (5, 10, .inr (.inr (xRefs 30 (I 1 + 1)))))) (h2 : M' (2, 0) = some (.inr (10, xObj (zup I 1 (I 1 + 1)))))
    (hA : ∀ k, k < 30 → k ≠ 9 → (k < 12 ∨ 18 < k) → A' k = A k) (hj : ∀ k j, k ≠ 9 → j ≠ t → A' k j = A k j) (h9 : ∀ j, j ≠ e → A' 9 j = A 9 j) : RepX TR JR M' (zup I 1 (I 1 + 1)) A' L := by
  obtain ⟨k1, k2, k3, k4, k5, k6, k7, k8, k9⟩ := h
  have e1 : (I 1 + 1).toInt = (I 1).toInt + 1 := by rw [zadd (by simp only [Int32.reduceToInt]; omega) (by simp only [Int32.reduceToInt]; omega)]; rfl
  have K : ∀ k e, k ≠ 30 → k ≠ 28 → k ≠ 4 → k ≠ 2 → M' (k, e) = M (k, e) := fun k e a b c d => h0 _ (zneK a) (zneK b) (zneK c) (zneK d)
  have q := fun k h1 h2 h3 => (hA k h1 h2 h3).symm
  have q0 := q 0 (by decide) (by decide) (by decide); have q1 := q 1 (by decide) (by decide) (by decide); have q2 := q 2 (by decide) (by decide) (by decide); have q3 := q 3 (by decide) (by decide) (by decide); have q4 := q 4 (by decide) (by decide) (by decide); have q5 := q 5 (by decide) (by decide) (by decide); have q6 := q 6 (by decide) (by decide) (by decide); have q7 := q 7 (by decide) (by decide) (by decide); have q8 := q 8 (by decide) (by decide) (by decide); have q10 := q 10 (by decide) (by decide) (by decide); have q11 := q 11 (by decide) (by decide) (by decide); have q19 := q 19 (by decide) (by decide) (by decide); have q20 := q 20 (by decide) (by decide) (by decide); have q21 := q 21 (by decide) (by decide) (by decide); have q22 := q 22 (by decide) (by decide) (by decide); have q23 := q 23 (by decide) (by decide) (by decide); have q24 := q 24 (by decide) (by decide) (by decide); have q25 := q 25 (by decide) (by decide) (by decide); have q26 := q 26 (by decide) (by decide) (by decide); have q27 := q 27 (by decide) (by decide) (by decide); have q28 := q 28 (by decide) (by decide) (by decide); have q29 := q 29 (by decide) (by decide) (by decide)
  refine ⟨⟨h2, (K 3 0 (by decide) (by decide) (by decide) (by decide)).trans k1.2.1, h4, (K 5 0 (by decide) (by decide) (by decide) (by decide)).trans k1.2.2.2.1, (K 6 0 (by decide) (by decide) (by decide) (by decide)).trans k1.2.2.2.2.1, (K 7 0 (by decide) (by decide) (by decide) (by decide)).trans k1.2.2.2.2.2.1, (K 8 0 (by decide) (by decide) (by decide) (by decide)).trans k1.2.2.2.2.2.2⟩, ⟨fun e' he' => ?_, fun e' he' => ?_⟩, ⟨fun t' ht' => ?_, fun t' ht' => ?_⟩, ?_, ?_, ?_, ?_, k8.fr (K _ _ (by decide) (by decide) (by decide) (by decide)) (K _ _ (by decide) (by decide) (by decide) (by decide)) (K _ _ (by decide) (by decide) (by decide) (by decide)) (K _ _ (by decide) (by decide) (by decide) (by decide)), ?_⟩
  · obtain ⟨g1, f, g2, g3⟩ := k2.1 e' he'
    refine ⟨?_, f, (K 29 e' (by decide) (by decide) (by decide) (by decide)).trans g2, by rw [← q10, ← q11]; exact g3⟩
    by_cases z : e' = e
    · subst z; exact h28
    · rw [h0 _ (zneK (by decide : (28 : Nat) ≠ 30)) (zneI z) (zneK (by decide : (28 : Nat) ≠ 4)) (zneK (by decide : (28 : Nat) ≠ 2)), g1]
      unfold xEdge
      rw [h9 e' z, ← q0, ← q1, ← q2, ← q3, ← q4, ← q5, ← q6, ← q7, ← q8, ← q11]
  · obtain ⟨g1, g2⟩ := k2.2 e' he'
    have he'' : (I 0).toInt ≤ (e' : Int) := he'
    have z : e' ≠ e := by omega
    exact ⟨(h0 _ (zneK (by decide : (28 : Nat) ≠ 30)) (zneI z) (zneK (by decide : (28 : Nat) ≠ 4)) (zneK (by decide : (28 : Nat) ≠ 2))).trans g1, (K 29 e' (by decide) (by decide) (by decide) (by decide)).trans g2⟩
  · have ht'' : (t' : Int) < (I 1 + 1).toInt := ht'
    by_cases z : t' = t
    · subst z; exact h30
    · rw [h0 _ (zneI z) (zneK (by decide : (30 : Nat) ≠ 28)) (zneK (by decide : (30 : Nat) ≠ 4)) (zneK (by decide : (30 : Nat) ≠ 2)), k3.1 t' (by omega)]
      unfold xTool
      rw [hj 12 t' (by decide) z, hj 13 t' (by decide) z, hj 14 t' (by decide) z, hj 15 t' (by decide) z, hj 16 t' (by decide) z, hj 17 t' (by decide) z, hj 18 t' (by decide) z]
  · have ht'' : (I 1 + 1).toInt ≤ (t' : Int) := ht'
    have z : t' ≠ t := by omega
    exact (h0 _ (zneI z) (zneK (by decide : (30 : Nat) ≠ 28)) (zneK (by decide : (30 : Nat) ≠ 4)) (zneK (by decide : (30 : Nat) ≠ 2))).trans (k3.2 t' (by omega))
  · simp only [xMa, xMach, q22, q23, q24] at k4
    exact xMa.fr (I := zup I 1 (I 1 + 1)) (A := A') k4 (fun e => K 31 e (by decide) (by decide) (by decide) (by decide)) (fun e => K 32 e (by decide) (by decide) (by decide) (by decide))
  · simp only [xSh, q26, q27, q28, q29] at k5
    exact xSh.fr (A := A') k5 (fun e => K 26 e (by decide) (by decide) (by decide) (by decide)) (fun e => K 27 e (by decide) (by decide) (by decide) (by decide))
  · simp only [xTx, q19, q20] at k6
    exact xTx.fr (I := zup I 1 (I 1 + 1)) (A := A') k6 (fun e => K 23 e (by decide) (by decide) (by decide) (by decide)) (fun e => K 24 e (by decide) (by decide) (by decide) (by decide)) (fun e => K 25 e (by decide) (by decide) (by decide) (by decide))
  · simp only [xTa, q21] at k7
    exact xTa.fr (I := zup I 1 (I 1 + 1)) (A := A') k7 (K _ _ (by decide) (by decide) (by decide) (by decide)) (K _ _ (by decide) (by decide) (by decide) (by decide)) (K _ _ (by decide) (by decide) (by decide) (by decide)) (K _ _ (by decide) (by decide) (by decide) (by decide))
  · simp only [xJo, q25] at k9
    exact xJo.fr (I := zup I 1 (I 1 + 1)) (A := A') k9 (K _ _ (by decide) (by decide) (by decide) (by decide)) (K _ _ (by decide) (by decide) (by decide) (by decide)) (K _ _ (by decide) (by decide) (by decide) (by decide)) (K _ _ (by decide) (by decide) (by decide) (by decide)) (K _ _ (by decide) (by decide) (by decide) (by decide)) (fun e => K 18 e (by decide) (by decide) (by decide) (by decide))
def sA_tool (I : zSI) (A : zSA) (h e s f : Int32) : zSA := zA2 (zA2 (zA2 (zA2 (zA2 (zA2 (zA2 (zA2 A 12 (zN (I 1)) h) 13 (zN (I 1)) e) 14 (zN (I 1)) s) 15 (zN (I 1)) f) 16 (zN (I 1)) 0) 17 (zN (I 1)) (-1)) 18 (zN (I 1)) (-1)) 9 (zN e) (I 1)
def sp_tool (I : zSI) (A : zSA) (L : zSL) (h e s f : Int32) : zRes := if ¬ zBw h 20 300 ∨ ¬ zBw e 0 (I 0 - 1) ∨ ¬ zBw s 1 3 ∨ ¬ zBw f 0 9 then (-2, I, A, L) else if ¬ A 9 (zN e) = -1 then (-3, I, A, L) else if I 1 = 10 then (-4, I, A, L) else (I 1, zup I 1 (I 1 + 1), sA_tool I A h e s f, L)
set_option maxRecDepth 20000 in
set_option maxHeartbeats 4000000 in
theorem c9_init {fr : Nat} {M : zM} {a b : zAd} (hf : 1 ≤ fr) (h2 : 2 ≤ a.1) (hthis : M a = some (.inr (9, zf9))) (h e s f : Int32) : zCv zX9_init fr 0 0 [zr a, zi h, zi e, zr b, zi s, zi f] M (fun M' => M' = zupd M a (.inr (9, [zi h, zi e, zr b, zi s, zi f, zi 0, zi (-1), zi (-1)]))) := by
  refine z_enter (L := [some (zr a), some (zi h), some (zi e), some (zr b), some (zi s), some (zi f)]) rfl (by decide +kernel) (Nat.le_of_ble_eq_true rfl) ?_
  refine z_al iX9_init_0 rfl ?_
  refine z_oi iX9_init_1 (by omega) (by decide) ?_
  refine z_al iX9_init_4 rfl ?_
  refine z_co iX9_init_5 ?_
  refine z_pf iX9_init_6 hthis h2 (Nat.le_of_ble_eq_true rfl) trivial ?_
  refine z_al iX9_init_9 rfl ?_
  refine z_co iX9_init_10 ?_
  refine z_pf2 iX9_init_11 h2 (Nat.le_of_ble_eq_true rfl) trivial ?_
  refine z_al iX9_init_14 rfl ?_
  refine z_il iX9_init_15 rfl ?_
  refine z_pf2 iX9_init_16 h2 (Nat.le_of_ble_eq_true rfl) trivial ?_
  refine z_al iX9_init_19 rfl ?_
  refine z_il iX9_init_20 rfl ?_
  refine z_pf2 iX9_init_21 h2 (Nat.le_of_ble_eq_true rfl) trivial ?_
  refine z_al iX9_init_24 rfl ?_
  refine z_al iX9_init_25 rfl ?_
  refine z_pf2 iX9_init_26 h2 (Nat.le_of_ble_eq_true rfl) trivial ?_
  refine z_al iX9_init_29 rfl ?_
  refine z_il iX9_init_30 rfl ?_
  refine z_pf2 iX9_init_32 h2 (Nat.le_of_ble_eq_true rfl) trivial ?_
  refine z_al iX9_init_35 rfl ?_
  refine z_il iX9_init_36 rfl ?_
  refine z_pf2 iX9_init_38 h2 (Nat.le_of_ble_eq_true rfl) trivial ?_
  refine z_vret iX9_init_41 rfl ?_
  exact ⟨rfl, rfl⟩
set_option maxRecDepth 20000 in
set_option maxHeartbeats 4000000 in
theorem pm_tool {fr : Nat} {M : zM} {I J : zSI} {A : zSA} {L : zSL} {K : Int64} (hf : 3 ≤ fr) (hR : RepM M I A L J K) (hV : Val I A L) (h : Int32) (e : Int32) (s : Int32) (f : Int32) : zCi zX11_tool fr 0 0 [zr (40, 0), zi h, zi e, zi s, zi f] M (fun x M' => zEM M x (sp_tool I A L h e s f) M') := by
  refine z_enter (L := [some (zr (40, 0)), some (zi h), some (zi e), some (zi s), some (zi f)]) rfl (by decide +kernel) (Nat.le_of_ble_eq_true rfl) ?_
  refine z_il iX11_tool_0 rfl ?_
  refine z_co iX11_tool_1 ?_
  refine z_co iX11_tool_3 ?_
  refine z_cs3i (fr' := fr - 1) iX11_tool_6 zmX11_in (c11_in _ _ _) (by omega) (Nat.le_of_ble_eq_true rfl) (fun x M1 hq => ?_)
  obtain ⟨rfl, rfl⟩ := hq
  refine z_ib_eq iX11_tool_9 (fun h1 => ?_) (fun h1 => ?_)
  · refine z_co iX11_tool_40 ?_
    refine z_iret iX11_tool_42 rfl ?_
    refine ⟨_, rfl, ?_⟩
    unfold sp_tool
    repeat' split
    all_goals first | exact zEM.rd hR | (exfalso; simp only [true_and, and_true, false_and, and_false, true_or, or_true, false_or, or_false, not_true_eq_false, not_false_eq_true, zN, zBw, zUnd, zCor, zi_eq, zi_le, zi_lt, Int32.reduceToInt, List.length_cons, List.length_nil] at *; omega)
  · refine z_al iX11_tool_12 rfl ?_
    refine z_il iX11_tool_13 rfl ?_
    refine z_cv1i (fr' := fr - 1) iX11_tool_14 zmX11_isEdge hR.1 (c11_isEdge (by omega) hR _) (by omega) (Nat.le_of_ble_eq_true rfl) (fun x M1 hq => ?_)
    obtain ⟨rfl, rfl⟩ := hq
    refine z_ib_eq iX11_tool_17 (fun h2 => ?_) (fun h2 => ?_)
    · refine z_co iX11_tool_40 ?_
      refine z_iret iX11_tool_42 rfl ?_
      refine ⟨_, rfl, ?_⟩
      unfold sp_tool
      repeat' split
      all_goals first | exact zEM.rd hR | (exfalso; simp only [true_and, and_true, false_and, and_false, true_or, or_true, false_or, or_false, not_true_eq_false, not_false_eq_true, zN, zBw, zUnd, zCor, zi_eq, zi_le, zi_lt, Int32.reduceToInt, List.length_cons, List.length_nil] at *; omega)
    · refine z_il iX11_tool_20 rfl ?_
      refine z_co iX11_tool_21 ?_
      refine z_co iX11_tool_22 ?_
      refine z_cs3i (fr' := fr - 1) iX11_tool_23 zmX11_in (c11_in _ _ _) (by omega) (Nat.le_of_ble_eq_true rfl) (fun x M1 hq => ?_)
      obtain ⟨rfl, rfl⟩ := hq
      refine z_ib_eq iX11_tool_26 (fun h3 => ?_) (fun h3 => ?_)
      · refine z_co iX11_tool_40 ?_
        refine z_iret iX11_tool_42 rfl ?_
        refine ⟨_, rfl, ?_⟩
        unfold sp_tool
        repeat' split
        all_goals first | exact zEM.rd hR | (exfalso; simp only [true_and, and_true, false_and, and_false, true_or, or_true, false_or, or_false, not_true_eq_false, not_false_eq_true, zN, zBw, zUnd, zCor, zi_eq, zi_le, zi_lt, Int32.reduceToInt, List.length_cons, List.length_nil] at *; omega)
      · refine z_il iX11_tool_29 rfl ?_
        refine z_co iX11_tool_31 ?_
        refine z_co iX11_tool_32 ?_
        refine z_cs3i (fr' := fr - 1) iX11_tool_34 zmX11_in (c11_in _ _ _) (by omega) (Nat.le_of_ble_eq_true rfl) (fun x M1 hq => ?_)
        obtain ⟨rfl, rfl⟩ := hq
        refine z_ib_ne iX11_tool_37 (fun h4 => ?_) (fun h4 => ?_)
        · refine z_al iX11_tool_43 rfl ?_
          refine z_gf iX11_tool_44 hR.1 rfl ?_
          refine z_il iX11_tool_47 rfl ?_
          refine z_iald iX11_tool_48 (hR.2.1 9 (by decide)) (zIdx h2 hV.1.1 (by decide)).1 (zLt (zIdx h2 hV.1.1 (by decide)).2.2) ?_
          refine z_co iX11_tool_49 ?_
          refine z_icmp_eq iX11_tool_50 (fun h5 => ?_) (fun h5 => ?_)
          · refine z_al iX11_tool_56 rfl ?_
            refine z_gf iX11_tool_57 hR.1 rfl ?_
            refine z_co iX11_tool_60 ?_
            refine z_icmp_ne iX11_tool_62 (fun h6 => ?_) (fun h6 => ?_)
            · refine z_al iX11_tool_68 rfl ?_
              refine z_gf iX11_tool_69 hR.1 rfl ?_
              refine z_al iX11_tool_72 rfl ?_
              refine z_gf iX11_tool_73 hR.1 rfl ?_
              refine z_il iX11_tool_76 rfl ?_
              refine z_iast iX11_tool_77 (hR.2.1 12 (by decide)) (by decide) (zCnt hV.1.2.1 (by decide) rfl h6).1 (zLt2 (N := 10) (zCnt hV.1.2.1 (by decide) rfl h6).2) ?_
              refine z_al iX11_tool_78 rfl ?_
              refine z_gf iX11_tool_79 ((zupd_k (Nat.ne_of_beq_eq_false rfl)).trans hR.1) rfl ?_
              refine z_al iX11_tool_82 rfl ?_
              refine z_gf iX11_tool_83 ((zupd_k (Nat.ne_of_beq_eq_false rfl)).trans hR.1) rfl ?_
              refine z_il iX11_tool_86 rfl ?_
              refine z_iast iX11_tool_87 ((zupd_i (Nat.ne_of_beq_eq_false rfl)).trans (hR.2.1 13 (by decide))) (by decide) (zCnt hV.1.2.1 (by decide) rfl h6).1 (zLt2 (N := 10) (zCnt hV.1.2.1 (by decide) rfl h6).2) ?_
              refine z_al iX11_tool_88 rfl ?_
              refine z_gf iX11_tool_89 ((zupd_k (Nat.ne_of_beq_eq_false rfl)).trans ((zupd_k (Nat.ne_of_beq_eq_false rfl)).trans hR.1)) rfl ?_
              refine z_al iX11_tool_92 rfl ?_
              refine z_gf iX11_tool_93 ((zupd_k (Nat.ne_of_beq_eq_false rfl)).trans ((zupd_k (Nat.ne_of_beq_eq_false rfl)).trans hR.1)) rfl ?_
              refine z_il iX11_tool_96 rfl ?_
              refine z_iast iX11_tool_97 ((zupd_i (Nat.ne_of_beq_eq_false rfl)).trans ((zupd_i (Nat.ne_of_beq_eq_false rfl)).trans (hR.2.1 14 (by decide)))) (by decide) (zCnt hV.1.2.1 (by decide) rfl h6).1 (zLt2 (N := 10) (zCnt hV.1.2.1 (by decide) rfl h6).2) ?_
              refine z_al iX11_tool_98 rfl ?_
              refine z_gf iX11_tool_99 ((zupd_k (Nat.ne_of_beq_eq_false rfl)).trans ((zupd_k (Nat.ne_of_beq_eq_false rfl)).trans ((zupd_k (Nat.ne_of_beq_eq_false rfl)).trans hR.1))) rfl ?_
              refine z_al iX11_tool_102 rfl ?_
              refine z_gf iX11_tool_103 ((zupd_k (Nat.ne_of_beq_eq_false rfl)).trans ((zupd_k (Nat.ne_of_beq_eq_false rfl)).trans ((zupd_k (Nat.ne_of_beq_eq_false rfl)).trans hR.1))) rfl ?_
              refine z_il iX11_tool_106 rfl ?_
              refine z_iast iX11_tool_108 ((zupd_i (Nat.ne_of_beq_eq_false rfl)).trans ((zupd_i (Nat.ne_of_beq_eq_false rfl)).trans ((zupd_i (Nat.ne_of_beq_eq_false rfl)).trans (hR.2.1 15 (by decide))))) (by decide) (zCnt hV.1.2.1 (by decide) rfl h6).1 (zLt2 (N := 10) (zCnt hV.1.2.1 (by decide) rfl h6).2) ?_
              refine z_al iX11_tool_109 rfl ?_
              refine z_gf iX11_tool_110 ((zupd_k (Nat.ne_of_beq_eq_false rfl)).trans ((zupd_k (Nat.ne_of_beq_eq_false rfl)).trans ((zupd_k (Nat.ne_of_beq_eq_false rfl)).trans ((zupd_k (Nat.ne_of_beq_eq_false rfl)).trans hR.1)))) rfl ?_
              refine z_al iX11_tool_113 rfl ?_
              refine z_gf iX11_tool_114 ((zupd_k (Nat.ne_of_beq_eq_false rfl)).trans ((zupd_k (Nat.ne_of_beq_eq_false rfl)).trans ((zupd_k (Nat.ne_of_beq_eq_false rfl)).trans ((zupd_k (Nat.ne_of_beq_eq_false rfl)).trans hR.1)))) rfl ?_
              refine z_co iX11_tool_117 ?_
              refine z_iast iX11_tool_118 ((zupd_i (Nat.ne_of_beq_eq_false rfl)).trans ((zupd_i (Nat.ne_of_beq_eq_false rfl)).trans ((zupd_i (Nat.ne_of_beq_eq_false rfl)).trans ((zupd_i (Nat.ne_of_beq_eq_false rfl)).trans (hR.2.1 16 (by decide)))))) (by decide) (zCnt hV.1.2.1 (by decide) rfl h6).1 (zLt2 (N := 10) (zCnt hV.1.2.1 (by decide) rfl h6).2) ?_
              refine z_al iX11_tool_119 rfl ?_
              refine z_gf iX11_tool_120 ((zupd_k (Nat.ne_of_beq_eq_false rfl)).trans ((zupd_k (Nat.ne_of_beq_eq_false rfl)).trans ((zupd_k (Nat.ne_of_beq_eq_false rfl)).trans ((zupd_k (Nat.ne_of_beq_eq_false rfl)).trans ((zupd_k (Nat.ne_of_beq_eq_false rfl)).trans hR.1))))) rfl ?_
              refine z_al iX11_tool_123 rfl ?_
              refine z_gf iX11_tool_124 ((zupd_k (Nat.ne_of_beq_eq_false rfl)).trans ((zupd_k (Nat.ne_of_beq_eq_false rfl)).trans ((zupd_k (Nat.ne_of_beq_eq_false rfl)).trans ((zupd_k (Nat.ne_of_beq_eq_false rfl)).trans ((zupd_k (Nat.ne_of_beq_eq_false rfl)).trans hR.1))))) rfl ?_
              refine z_co iX11_tool_127 ?_
              refine z_iast iX11_tool_128 ((zupd_i (Nat.ne_of_beq_eq_false rfl)).trans ((zupd_i (Nat.ne_of_beq_eq_false rfl)).trans ((zupd_i (Nat.ne_of_beq_eq_false rfl)).trans ((zupd_i (Nat.ne_of_beq_eq_false rfl)).trans ((zupd_i (Nat.ne_of_beq_eq_false rfl)).trans (hR.2.1 17 (by decide))))))) (by decide) (zCnt hV.1.2.1 (by decide) rfl h6).1 (zLt2 (N := 10) (zCnt hV.1.2.1 (by decide) rfl h6).2) ?_
              refine z_al iX11_tool_129 rfl ?_
              refine z_gf iX11_tool_130 ((zupd_k (Nat.ne_of_beq_eq_false rfl)).trans ((zupd_k (Nat.ne_of_beq_eq_false rfl)).trans ((zupd_k (Nat.ne_of_beq_eq_false rfl)).trans ((zupd_k (Nat.ne_of_beq_eq_false rfl)).trans ((zupd_k (Nat.ne_of_beq_eq_false rfl)).trans ((zupd_k (Nat.ne_of_beq_eq_false rfl)).trans hR.1)))))) rfl ?_
              refine z_al iX11_tool_133 rfl ?_
              refine z_gf iX11_tool_134 ((zupd_k (Nat.ne_of_beq_eq_false rfl)).trans ((zupd_k (Nat.ne_of_beq_eq_false rfl)).trans ((zupd_k (Nat.ne_of_beq_eq_false rfl)).trans ((zupd_k (Nat.ne_of_beq_eq_false rfl)).trans ((zupd_k (Nat.ne_of_beq_eq_false rfl)).trans ((zupd_k (Nat.ne_of_beq_eq_false rfl)).trans hR.1)))))) rfl ?_
              refine z_co iX11_tool_137 ?_
              refine z_iast iX11_tool_138 ((zupd_i (Nat.ne_of_beq_eq_false rfl)).trans ((zupd_i (Nat.ne_of_beq_eq_false rfl)).trans ((zupd_i (Nat.ne_of_beq_eq_false rfl)).trans ((zupd_i (Nat.ne_of_beq_eq_false rfl)).trans ((zupd_i (Nat.ne_of_beq_eq_false rfl)).trans ((zupd_i (Nat.ne_of_beq_eq_false rfl)).trans (hR.2.1 18 (by decide)))))))) (by decide) (zCnt hV.1.2.1 (by decide) rfl h6).1 (zLt2 (N := 10) (zCnt hV.1.2.1 (by decide) rfl h6).2) ?_
              refine z_al iX11_tool_139 rfl ?_
              refine z_gf iX11_tool_140 ((zupd_k (Nat.ne_of_beq_eq_false rfl)).trans ((zupd_k (Nat.ne_of_beq_eq_false rfl)).trans ((zupd_k (Nat.ne_of_beq_eq_false rfl)).trans ((zupd_k (Nat.ne_of_beq_eq_false rfl)).trans ((zupd_k (Nat.ne_of_beq_eq_false rfl)).trans ((zupd_k (Nat.ne_of_beq_eq_false rfl)).trans ((zupd_k (Nat.ne_of_beq_eq_false rfl)).trans hR.1))))))) rfl ?_
              refine z_il iX11_tool_143 rfl ?_
              refine z_al iX11_tool_144 rfl ?_
              refine z_gf iX11_tool_145 ((zupd_k (Nat.ne_of_beq_eq_false rfl)).trans ((zupd_k (Nat.ne_of_beq_eq_false rfl)).trans ((zupd_k (Nat.ne_of_beq_eq_false rfl)).trans ((zupd_k (Nat.ne_of_beq_eq_false rfl)).trans ((zupd_k (Nat.ne_of_beq_eq_false rfl)).trans ((zupd_k (Nat.ne_of_beq_eq_false rfl)).trans ((zupd_k (Nat.ne_of_beq_eq_false rfl)).trans hR.1))))))) rfl ?_
              refine z_iast iX11_tool_148 ((zupd_i (Nat.ne_of_beq_eq_false rfl)).trans ((zupd_i (Nat.ne_of_beq_eq_false rfl)).trans ((zupd_i (Nat.ne_of_beq_eq_false rfl)).trans ((zupd_i (Nat.ne_of_beq_eq_false rfl)).trans ((zupd_i (Nat.ne_of_beq_eq_false rfl)).trans ((zupd_i (Nat.ne_of_beq_eq_false rfl)).trans ((zupd_i (Nat.ne_of_beq_eq_false rfl)).trans (hR.2.1 9 (by decide))))))))) (by decide) (zIdx h2 hV.1.1 (by decide)).1 (zLt (zIdx h2 hV.1.1 (by decide)).2.2) ?_
              refine z_al iX11_tool_149 rfl ?_
              refine z_dup iX11_tool_150 ?_
              refine z_gf iX11_tool_151 ((zupd_k (Nat.ne_of_beq_eq_false rfl)).trans ((zupd_k (Nat.ne_of_beq_eq_false rfl)).trans ((zupd_k (Nat.ne_of_beq_eq_false rfl)).trans ((zupd_k (Nat.ne_of_beq_eq_false rfl)).trans ((zupd_k (Nat.ne_of_beq_eq_false rfl)).trans ((zupd_k (Nat.ne_of_beq_eq_false rfl)).trans ((zupd_k (Nat.ne_of_beq_eq_false rfl)).trans ((zupd_k (Nat.ne_of_beq_eq_false rfl)).trans hR.1)))))))) rfl ?_
              refine z_co iX11_tool_154 ?_
              refine z_iadd iX11_tool_155 ?_
              refine z_pf iX11_tool_156 ((zupd_k (Nat.ne_of_beq_eq_false rfl)).trans ((zupd_k (Nat.ne_of_beq_eq_false rfl)).trans ((zupd_k (Nat.ne_of_beq_eq_false rfl)).trans ((zupd_k (Nat.ne_of_beq_eq_false rfl)).trans ((zupd_k (Nat.ne_of_beq_eq_false rfl)).trans ((zupd_k (Nat.ne_of_beq_eq_false rfl)).trans ((zupd_k (Nat.ne_of_beq_eq_false rfl)).trans ((zupd_k (Nat.ne_of_beq_eq_false rfl)).trans hR.1)))))))) (by decide) (Nat.le_of_ble_eq_true rfl) trivial ?_
              refine z_al iX11_tool_159 rfl ?_
              refine z_gf iX11_tool_160 zupd_s rfl ?_
              refine z_co iX11_tool_163 ?_
              refine z_isub iX11_tool_164 ?_
              refine z_iret iX11_tool_165 rfl ?_
              refine ⟨_, rfl, ?_⟩
              unfold sp_tool
              rw [if_neg (fun g => by rcases g with z | z | z | z; exact z h1; exact z h2; exact z h3; exact z h4), if_neg (fun z => z h5), if_neg h6]
              exact ⟨zp1 _, zfr (zfr (zfr (zfr (zfr (zfr (zfr (zfr (zfr zfr_nil (by decide)) (by decide)) (by decide)) (by decide)) (by decide)) (by decide)) (by decide)) (by decide)) (by decide), _, _, _, fun _ _ => rfl, ((((((((hR.arr 12 _).arr 13 _).arr 14 _).arr 15 _).arr 16 _).arr 17 _).arr 18 _).arr 9 _).obj (I' := zup I 1 (I 1 + 1)) (J' := J) (K' := K) rfl⟩
            · refine z_co iX11_tool_65 ?_
              refine z_iret iX11_tool_67 rfl ?_
              refine ⟨_, rfl, ?_⟩
              unfold sp_tool
              repeat' split
              all_goals first | exact zEM.rd hR | (exfalso; simp only [true_and, and_true, false_and, and_false, true_or, or_true, false_or, or_false, not_true_eq_false, not_false_eq_true, zN, zBw, zUnd, zCor, zi_eq, zi_le, zi_lt, Int32.reduceToInt, List.length_cons, List.length_nil] at *; omega)
          · refine z_co iX11_tool_53 ?_
            refine z_iret iX11_tool_55 rfl ?_
            refine ⟨_, rfl, ?_⟩
            unfold sp_tool
            repeat' split
            all_goals first | exact zEM.rd hR | (exfalso; simp only [true_and, and_true, false_and, and_false, true_or, or_true, false_or, or_false, not_true_eq_false, not_false_eq_true, zN, zBw, zUnd, zCor, zi_eq, zi_le, zi_lt, Int32.reduceToInt, List.length_cons, List.length_nil] at *; omega)
        · refine z_co iX11_tool_40 ?_
          refine z_iret iX11_tool_42 rfl ?_
          refine ⟨_, rfl, ?_⟩
          unfold sp_tool
          repeat' split
          all_goals first | exact zEM.rd hR | (exfalso; simp only [true_and, and_true, false_and, and_false, true_or, or_true, false_or, or_false, not_true_eq_false, not_false_eq_true, zN, zBw, zUnd, zCor, zi_eq, zi_le, zi_lt, Int32.reduceToInt, List.length_cons, List.length_nil] at *; omega)
