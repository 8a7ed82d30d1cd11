theorem RepX.newEdge {TR : zTR} {JR : zJR} {M M' : zM} {I : zSI} {A A' : zSA} {L L' : zSL} (h : RepX TR JR M I A L) {e : Nat} (he : (I 0).toInt = (e : Int)) (he2 : e < 24)
    (h0 : ∀ a : zAd, a ≠ (28, e) → a ≠ (29, e) → a ≠ (3, 0) → a ≠ (2, 0) → M' a = M a) (h28 : M' (28, e) = some (.inr (0, xEdge A' L' e))) {g : Nat → Int32} (h29 : M' (29, e) = some (.inl (0, 8, .inl g))) (hts : A' 11 e = 0)
    (h3 : M' (3, 0) = some (.inl (4, 24, .inr (.inr (xRefs 28 (I 0 + 1)))))) (h2 : M' (2, 0) = some (.inr (10, xObj (zup I 0 (I 0 + 1)))))
    (hA : ∀ k, k < 30 → (k = 10 ∨ 12 ≤ k) → A' k = A k) (hj : ∀ k j, j ≠ e → A' k j = A k j) (hL : ∀ j, j ≠ e → L' j = L j) : RepX TR JR M' (zup I 0 (I 0 + 1)) A' L' := by
  obtain ⟨k1, k2, k3, k4, k5, k6, k7, k8, k9⟩ := h
  have e1 : (I 0 + 1).toInt = (I 0).toInt + 1 := by rw [zadd (by simp only [Int32.reduceToInt]; omega) (by simp only [Int32.reduceToInt]; omega)]; rfl
  have K : ∀ k e, k ≠ 28 → k ≠ 29 → k ≠ 3 → k ≠ 2 → M' (k, e) = M (k, e) := fun k e a b c d => h0 _ (zneK a) (zneK b) (zneK c) (zneK d)
  have q := fun k h1 h2 => (hA k h1 h2).symm
  have q10 := q 10 (by decide) (by decide); have q12 := q 12 (by decide) (by decide); have q13 := q 13 (by decide) (by decide); have q14 := q 14 (by decide) (by decide); have q15 := q 15 (by decide) (by decide); have q16 := q 16 (by decide) (by decide); have q17 := q 17 (by decide) (by decide); have q18 := q 18 (by decide) (by decide); have q19 := q 19 (by decide) (by decide); have q20 := q 20 (by decide) (by decide); have q21 := q 21 (by decide) (by decide); have q22 := q 22 (by decide) (by decide); have q23 := q 23 (by decide) (by decide); have q24 := q 24 (by decide) (by decide); have q25 := q 25 (by decide) (by decide); have q26 := q 26 (by decide) (by decide); have q27 := q 27 (by decide) (by decide); have q28 := q 28 (by decide) (by decide); have q29 := q 29 (by decide) (by decide)
  refine ⟨⟨h2, h3, (K 4 0 (by decide) (by decide) (by decide) (by decide)).trans k1.2.2.1, (K 5 0 (by decide) (by decide) (by decide) (by decide)).trans k1.2.2.2.1, (K 6 0 (by decide) (by decide) (by decide) (by decide)).trans k1.2.2.2.2.1, (K 7 0 (by decide) (by decide) (by decide) (by decide)).trans k1.2.2.2.2.2.1, (K 8 0 (by decide) (by decide) (by decide) (by decide)).trans k1.2.2.2.2.2.2⟩, ⟨fun e' he' => ?_, fun e' he' => ?_⟩, ?_, ?_, ?_, ?_, ?_, k8.fr (K _ _ (by decide) (by decide) (by decide) (by decide)) (K _ _ (by decide) (by decide) (by decide) (by decide)) (K _ _ (by decide) (by decide) (by decide) (by decide)) (K _ _ (by decide) (by decide) (by decide) (by decide)), ?_⟩
  · have he'' : (e' : Int) < (I 0 + 1).toInt := he'
    by_cases z : e' = e
    · subst z
      exact ⟨h28, g, h29, fun j hj => by rw [hts] at hj; simp only [Int32.reduceToInt] at hj; omega⟩
    · obtain ⟨g1, f, g2, g3⟩ := k2.1 e' (by omega)
      refine ⟨?_, f, (h0 _ (zneK (by decide : (29 : Nat) ≠ 28)) (zneI z) (zneK (by decide : (29 : Nat) ≠ 3)) (zneK (by decide : (29 : Nat) ≠ 2))).trans g2, by rw [← q10, hj 11 e' z]; exact g3⟩
      rw [h0 _ (zneI z) (zneK (by decide : (28 : Nat) ≠ 29)) (zneK (by decide : (28 : Nat) ≠ 3)) (zneK (by decide : (28 : Nat) ≠ 2)), g1]
      unfold xEdge
      rw [hj 0 e' z, hj 1 e' z, hj 2 e' z, hj 3 e' z, hj 4 e' z, hj 5 e' z, hj 6 e' z, hj 7 e' z, hj 8 e' z, hj 9 e' z, hj 11 e' z, hL e' z]
  · have he'' : (I 0 + 1).toInt ≤ (e' : Int) := he'
    obtain ⟨g1, g2⟩ := k2.2 e' (by omega)
    have z : e' ≠ e := by omega
    exact ⟨(h0 _ (zneI z) (zneK (by decide : (28 : Nat) ≠ 29)) (zneK (by decide : (28 : Nat) ≠ 3)) (zneK (by decide : (28 : Nat) ≠ 2))).trans g1, (h0 _ (zneK (by decide : (29 : Nat) ≠ 28)) (zneI z) (zneK (by decide : (29 : Nat) ≠ 3)) (zneK (by decide : (29 : Nat) ≠ 2))).trans g2⟩
  · simp only [xTo, xTool, q12, q13, q14, q15, q16, q17, q18] at k3
    exact xTo.fr (I := zup I 0 (I 0 + 1)) (A := A') k3 (fun e => K 30 e (by decide) (by decide) (by decide) (by decide))
  · simp only [xMa, xMach, q22, q23, q24] at k4
    exact xMa.fr (I := zup I 0 (I 0 + 1)) (A := A') k4 (fun e => K 31 e (by decide) (by decide) (by decide) (by decide)) (fun e => K 32 e (by decide) (by decide) (by decide) (by decide))
  · simp only [xSh, q26, q27, q28, q29] at k5
    exact xSh.fr (A := A') k5 (fun e => K 26 e (by decide) (by decide) (by decide) (by decide)) (fun e => K 27 e (by decide) (by decide) (by decide) (by decide))
  · simp only [xTx, q19, q20] at k6
    exact xTx.fr (I := zup I 0 (I 0 + 1)) (A := A') k6 (fun e => K 23 e (by decide) (by decide) (by decide) (by decide)) (fun e => K 24 e (by decide) (by decide) (by decide) (by decide)) (fun e => K 25 e (by decide) (by decide) (by decide) (by decide))
  · simp only [xTa, q21] at k7
    exact xTa.fr (I := zup I 0 (I 0 + 1)) (A := A') k7 (K _ _ (by decide) (by decide) (by decide) (by decide)) (K _ _ (by decide) (by decide) (by decide) (by decide)) (K _ _ (by decide) (by decide) (by decide) (by decide)) (K _ _ (by decide) (by decide) (by decide) (by decide))
  · simp only [xJo, q25] at k9
    exact xJo.fr (I := zup I 0 (I 0 + 1)) (A := A') k9 (K _ _ (by decide) (by decide) (by decide) (by decide)) (K _ _ (by decide) (by decide) (by decide) (by decide)) (K _ _ (by decide) (by decide) (by decide) (by decide)) (K _ _ (by decide) (by decide) (by decide) (by decide)) (K _ _ (by decide) (by decide) (by decide) (by decide)) (fun e => K 18 e (by decide) (by decide) (by decide) (by decide))
def zLeft (k corners : Int32) : Int32 := if zCor k then corners - 1 else 0
def sA_edge (I : zSI) (A : zSA) (k span shortest cl lives : Int32) : zSA := zA2 (zA2 (zA2 (zA2 (zA2 (zA2 (zA2 (zA2 (zA2 (zA2 (zA2 A 0 (zN (I 0)) k) 1 (zN (I 0)) span) 2 (zN (I 0)) shortest) 3 (zN (I 0)) cl) 4 (zN (I 0)) lives) 5 (zN (I 0)) 0) 6 (zN (I 0)) 0) 7 (zN (I 0)) 0) 8 (zN (I 0)) 0) 9 (zN (I 0)) (-1)) 11 (zN (I 0)) 0
def sp_edge (I : zSI) (A : zSA) (L : zSL) (k span shortest corners lives : Int32) : zRes := if ¬ zBw k 0 5 ∨ ¬ zBw span 10 200 ∨ ¬ zBw shortest 1 span ∨ (zCor k ∧ ¬ zBw corners 1 8) ∨ ¬ zBw lives 1 999 then (-2, I, A, L) else if I 0 = 24 then (-4, I, A, L) else (I 0, zup I 0 (I 0 + 1), sA_edge I A k span shortest (zLeft k corners) lives, zup L (zN (I 0)) 0)
set_option maxRecDepth 20000 in
set_option maxHeartbeats 4000000 in
theorem c0_init {fr : Nat} {M : zM} {a h : zAd} (hf : 1 ≤ fr) (h2a : 2 ≤ a.1) (h2 : 2 ≤ h.1) (hne : a.1 ≠ h.1) (hthis : M a = some (.inr (0, zf0))) (nh : M h = none) (k len least left life : Int32) : zCv zX0_init fr 1 8 [zr a, zi k, zi len, zi least, zi left, zi life] M (fun M' => M' = zupd (zupd M h (.inl (0, 8, .inl fun _ => 0))) a (.inr (0, [zi k, zi least, zi life, zr h, zi 0, zi len, zi left, zi 0, zi 0, zi 0, zi 0, zi (-1), zl 0]))) := by
  refine z_enter (L := [some (zr a), some (zi k), some (zi len), some (zi least), some (zi left), some (zi life)]) rfl (by decide +kernel) (Nat.le_of_ble_eq_true rfl) ?_
  refine z_al iX0_init_0 rfl ?_
  refine z_oi iX0_init_1 (by omega) (by decide) ?_
  refine z_al iX0_init_4 rfl ?_
  refine z_co iX0_init_5 ?_
  refine z_newI (a := h) (N := 8) iX0_init_7 zac_int rfl (by decide) nh h2 ?_
  refine z_pf iX0_init_9 ((zupd_k hne).trans hthis) h2a (Nat.le_of_ble_eq_true rfl) trivial ?_
  refine z_al iX0_init_12 rfl ?_
  refine z_co iX0_init_13 ?_
  refine z_pf2 iX0_init_14 h2a (Nat.le_of_ble_eq_true rfl) trivial ?_
  refine z_al iX0_init_17 rfl ?_
  refine z_co iX0_init_18 ?_
  refine z_pf2 iX0_init_19 h2a (Nat.le_of_ble_eq_true rfl) trivial ?_
  refine z_al iX0_init_22 rfl ?_
  refine z_il iX0_init_23 rfl ?_
  refine z_pf2 iX0_init_24 h2a (Nat.le_of_ble_eq_true rfl) trivial ?_
  refine z_al iX0_init_27 rfl ?_
  refine z_il iX0_init_28 rfl ?_
  refine z_pf2 iX0_init_29 h2a (Nat.le_of_ble_eq_true rfl) trivial ?_
  refine z_al iX0_init_32 rfl ?_
  refine z_il iX0_init_33 rfl ?_
  refine z_pf2 iX0_init_34 h2a (Nat.le_of_ble_eq_true rfl) trivial ?_
  refine z_al iX0_init_37 rfl ?_
  refine z_il iX0_init_38 rfl ?_
  refine z_pf2 iX0_init_40 h2a (Nat.le_of_ble_eq_true rfl) trivial ?_
  refine z_al iX0_init_43 rfl ?_
  refine z_il iX0_init_44 rfl ?_
  refine z_pf2 iX0_init_46 h2a (Nat.le_of_ble_eq_true rfl) trivial ?_
  refine z_vret iX0_init_49 rfl ?_
  exact ⟨rfl, rfl⟩
set_option maxRecDepth 20000 in
set_option maxHeartbeats 4000000 in
theorem pm_edge {fr : Nat} {M : zM} {I J : zSI} {A : zSA} {L : zSL} {K : Int64} (hf : 3 ≤ fr) (hR : RepM M I A L J K) (hV : Val I A L) (k : Int32) (span : Int32) (sh : Int32) (c : Int32) (lives : Int32) : zCi zX11_edge fr 0 0 [zr (40, 0), zi k, zi span, zi sh, zi c, zi lives] M (fun x M' => zEM M x (sp_edge I A L k span sh c lives) M') := by
  refine z_enter (L := [some (zr (40, 0)), some (zi k), some (zi span), some (zi sh), some (zi c), some (zi lives)]) rfl (by decide +kernel) (Nat.le_of_ble_eq_true rfl) ?_
  refine z_il iX11_edge_0 rfl ?_
  refine z_co iX11_edge_1 ?_
  refine z_co iX11_edge_2 ?_
  refine z_cs3i (fr' := fr - 1) iX11_edge_3 zmX11_in (c11_in _ _ _) (by omega) (Nat.le_of_ble_eq_true rfl) (fun x M1 hq => ?_)
  obtain ⟨rfl, rfl⟩ := hq
  refine z_ib_eq iX11_edge_6 (fun h1 => ?_) (fun h1 => ?_)
  · refine z_co iX11_edge_60 ?_
    refine z_iret iX11_edge_62 rfl ?_
    refine ⟨_, rfl, ?_⟩
    unfold sp_edge
    repeat' split
    all_goals first | exact zEM.rd hR | (exfalso; simp only [true_and, and_true, false_and, and_false, true_or, or_true, false_or, or_false, not_true_eq_false, not_false_eq_true, zN, zBw, zUnd, zCor, zi_eq, zi_le, zi_lt, Int32.reduceToInt, List.length_cons, List.length_nil] at *; omega)
  · refine z_il iX11_edge_9 rfl ?_
    refine z_co iX11_edge_10 ?_
    refine z_co iX11_edge_12 ?_
    refine z_cs3i (fr' := fr - 1) iX11_edge_15 zmX11_in (c11_in _ _ _) (by omega) (Nat.le_of_ble_eq_true rfl) (fun x M1 hq => ?_)
    obtain ⟨rfl, rfl⟩ := hq
    refine z_ib_eq iX11_edge_18 (fun h2 => ?_) (fun h2 => ?_)
    · refine z_co iX11_edge_60 ?_
      refine z_iret iX11_edge_62 rfl ?_
      refine ⟨_, rfl, ?_⟩
      unfold sp_edge
      repeat' split
      all_goals first | exact zEM.rd hR | (exfalso; simp only [true_and, and_true, false_and, and_false, true_or, or_true, false_or, or_false, not_true_eq_false, not_false_eq_true, zN, zBw, zUnd, zCor, zi_eq, zi_le, zi_lt, Int32.reduceToInt, List.length_cons, List.length_nil] at *; omega)
    · refine z_il iX11_edge_21 rfl ?_
      refine z_co iX11_edge_22 ?_
      refine z_il iX11_edge_23 rfl ?_
      refine z_cs3i (fr' := fr - 1) iX11_edge_24 zmX11_in (c11_in _ _ _) (by omega) (Nat.le_of_ble_eq_true rfl) (fun x M1 hq => ?_)
      obtain ⟨rfl, rfl⟩ := hq
      refine z_ib_eq iX11_edge_27 (fun h3 => ?_) (fun h3 => ?_)
      · refine z_co iX11_edge_60 ?_
        refine z_iret iX11_edge_62 rfl ?_
        refine ⟨_, rfl, ?_⟩
        unfold sp_edge
        repeat' split
        all_goals first | exact zEM.rd hR | (exfalso; simp only [true_and, and_true, false_and, and_false, true_or, or_true, false_or, or_false, not_true_eq_false, not_false_eq_true, zN, zBw, zUnd, zCor, zi_eq, zi_le, zi_lt, Int32.reduceToInt, List.length_cons, List.length_nil] at *; omega)
      · refine z_il iX11_edge_30 rfl ?_
        refine z_cs1i (fr' := fr - 1) iX11_edge_31 zmX11_hasCorners (c11_hasCorners _) (by omega) (Nat.le_of_ble_eq_true rfl) (fun x M1 hq => ?_)
        obtain ⟨rfl, rfl⟩ := hq
        refine z_ib_eq iX11_edge_34 (fun h4 => ?_) (fun h4 => ?_)
        · refine z_il iX11_edge_48 rfl ?_
          refine z_co iX11_edge_50 ?_
          refine z_co iX11_edge_51 ?_
          refine z_cs3i (fr' := fr - 1) iX11_edge_54 zmX11_in (c11_in _ _ _) (by omega) (Nat.le_of_ble_eq_true rfl) (fun x M1 hq => ?_)
          obtain ⟨rfl, rfl⟩ := hq
          refine z_ib_ne iX11_edge_57 (fun h5 => ?_) (fun h5 => ?_)
          · refine z_al iX11_edge_63 rfl ?_
            refine z_gf iX11_edge_64 hR.1 rfl ?_
            refine z_co iX11_edge_67 ?_
            refine z_icmp_ne iX11_edge_69 (fun h6 => ?_) (fun h6 => ?_)
            · refine z_al iX11_edge_75 rfl ?_
              refine z_gf iX11_edge_76 hR.1 rfl ?_
              refine z_is iX11_edge_79 ?_
              refine z_al iX11_edge_81 rfl ?_
              refine z_gf iX11_edge_82 hR.1 rfl ?_
              refine z_il iX11_edge_85 rfl ?_
              refine z_il iX11_edge_87 rfl ?_
              refine z_iast iX11_edge_88 (hR.2.1 0 (by decide)) (by decide) (zCnt (c := 24) hV.1.1 (by decide) rfl (by assumption)).1 (zLt2 (N := 24) (zCnt (c := 24) hV.1.1 (by decide) rfl (by assumption)).2) ?_
              refine z_al iX11_edge_89 rfl ?_
              refine z_gf iX11_edge_90 ((zupd_k (Nat.ne_of_beq_eq_false rfl)).trans hR.1) rfl ?_
              refine z_il iX11_edge_93 rfl ?_
              refine z_il iX11_edge_95 rfl ?_
              refine z_iast iX11_edge_96 ((zupd_i (Nat.ne_of_beq_eq_false rfl)).trans (hR.2.1 1 (by decide))) (by decide) (zCnt (c := 24) hV.1.1 (by decide) rfl (by assumption)).1 (zLt2 (N := 24) (zCnt (c := 24) hV.1.1 (by decide) rfl (by assumption)).2) ?_
              refine z_al iX11_edge_97 rfl ?_
              refine z_gf iX11_edge_98 ((zupd_k (Nat.ne_of_beq_eq_false rfl)).trans ((zupd_k (Nat.ne_of_beq_eq_false rfl)).trans hR.1)) rfl ?_
              refine z_il iX11_edge_101 rfl ?_
              refine z_il iX11_edge_103 rfl ?_
              refine z_iast iX11_edge_104 ((zupd_i (Nat.ne_of_beq_eq_false rfl)).trans ((zupd_i (Nat.ne_of_beq_eq_false rfl)).trans (hR.2.1 2 (by decide)))) (by decide) (zCnt (c := 24) hV.1.1 (by decide) rfl (by assumption)).1 (zLt2 (N := 24) (zCnt (c := 24) hV.1.1 (by decide) rfl (by assumption)).2) ?_
              refine z_al iX11_edge_105 rfl ?_
              refine z_gf iX11_edge_106 ((zupd_k (Nat.ne_of_beq_eq_false rfl)).trans ((zupd_k (Nat.ne_of_beq_eq_false rfl)).trans ((zupd_k (Nat.ne_of_beq_eq_false rfl)).trans hR.1))) rfl ?_
              refine z_il iX11_edge_109 rfl ?_
              refine z_il iX11_edge_111 rfl ?_
              refine z_cs1i (fr' := fr - 1) iX11_edge_112 zmX11_hasCorners (c11_hasCorners _) (by omega) (Nat.le_of_ble_eq_true rfl) (fun x M1 hq => ?_)
              obtain ⟨rfl, rfl⟩ := hq
              refine z_ib_eq iX11_edge_115 (fun h7 => ?_) (fun h7 => ?_)
              · refine z_co iX11_edge_125 ?_
                refine z_iast iX11_edge_126 ((zupd_i (Nat.ne_of_beq_eq_false rfl)).trans ((zupd_i (Nat.ne_of_beq_eq_false rfl)).trans ((zupd_i (Nat.ne_of_beq_eq_false rfl)).trans (hR.2.1 3 (by decide))))) (by decide) (zCnt (c := 24) hV.1.1 (by decide) rfl (by assumption)).1 (zLt2 (N := 24) (zCnt (c := 24) hV.1.1 (by decide) rfl (by assumption)).2) ?_
                refine z_al iX11_edge_127 rfl ?_
                refine z_gf iX11_edge_128 ((zupd_k (Nat.ne_of_beq_eq_false rfl)).trans ((zupd_k (Nat.ne_of_beq_eq_false rfl)).trans ((zupd_k (Nat.ne_of_beq_eq_false rfl)).trans ((zupd_k (Nat.ne_of_beq_eq_false rfl)).trans hR.1)))) rfl ?_
                refine z_il iX11_edge_131 rfl ?_
                refine z_il iX11_edge_133 rfl ?_
                refine z_iast iX11_edge_135 ((zupd_i (Nat.ne_of_beq_eq_false rfl)).trans ((zupd_i (Nat.ne_of_beq_eq_false rfl)).trans ((zupd_i (Nat.ne_of_beq_eq_false rfl)).trans ((zupd_i (Nat.ne_of_beq_eq_false rfl)).trans (hR.2.1 4 (by decide)))))) (by decide) (zCnt (c := 24) hV.1.1 (by decide) rfl (by assumption)).1 (zLt2 (N := 24) (zCnt (c := 24) hV.1.1 (by decide) rfl (by assumption)).2) ?_
                refine z_al iX11_edge_136 rfl ?_
                refine z_gf iX11_edge_137 ((zupd_k (Nat.ne_of_beq_eq_false rfl)).trans ((zupd_k (Nat.ne_of_beq_eq_false rfl)).trans ((zupd_k (Nat.ne_of_beq_eq_false rfl)).trans ((zupd_k (Nat.ne_of_beq_eq_false rfl)).trans ((zupd_k (Nat.ne_of_beq_eq_false rfl)).trans hR.1))))) rfl ?_
                refine z_il iX11_edge_140 rfl ?_
                refine z_co iX11_edge_142 ?_
                refine z_iast iX11_edge_143 ((zupd_i (Nat.ne_of_beq_eq_false rfl)).trans ((zupd_i (Nat.ne_of_beq_eq_false rfl)).trans ((zupd_i (Nat.ne_of_beq_eq_false rfl)).trans ((zupd_i (Nat.ne_of_beq_eq_false rfl)).trans ((zupd_i (Nat.ne_of_beq_eq_false rfl)).trans (hR.2.1 5 (by decide))))))) (by decide) (zCnt (c := 24) hV.1.1 (by decide) rfl (by assumption)).1 (zLt2 (N := 24) (zCnt (c := 24) hV.1.1 (by decide) rfl (by assumption)).2) ?_
                refine z_al iX11_edge_144 rfl ?_
                refine z_gf iX11_edge_145 ((zupd_k (Nat.ne_of_beq_eq_false rfl)).trans ((zupd_k (Nat.ne_of_beq_eq_false rfl)).trans ((zupd_k (Nat.ne_of_beq_eq_false rfl)).trans ((zupd_k (Nat.ne_of_beq_eq_false rfl)).trans ((zupd_k (Nat.ne_of_beq_eq_false rfl)).trans ((zupd_k (Nat.ne_of_beq_eq_false rfl)).trans hR.1)))))) rfl ?_
                refine z_il iX11_edge_148 rfl ?_
                refine z_co iX11_edge_150 ?_
                refine z_iast iX11_edge_151 ((zupd_i (Nat.ne_of_beq_eq_false rfl)).trans ((zupd_i (Nat.ne_of_beq_eq_false rfl)).trans ((zupd_i (Nat.ne_of_beq_eq_false rfl)).trans ((zupd_i (Nat.ne_of_beq_eq_false rfl)).trans ((zupd_i (Nat.ne_of_beq_eq_false rfl)).trans ((zupd_i (Nat.ne_of_beq_eq_false rfl)).trans (hR.2.1 6 (by decide)))))))) (by decide) (zCnt (c := 24) hV.1.1 (by decide) rfl (by assumption)).1 (zLt2 (N := 24) (zCnt (c := 24) hV.1.1 (by decide) rfl (by assumption)).2) ?_
                refine z_al iX11_edge_152 rfl ?_
                refine z_gf iX11_edge_153 ((zupd_k (Nat.ne_of_beq_eq_false rfl)).trans ((zupd_k (Nat.ne_of_beq_eq_false rfl)).trans ((zupd_k (Nat.ne_of_beq_eq_false rfl)).trans ((zupd_k (Nat.ne_of_beq_eq_false rfl)).trans ((zupd_k (Nat.ne_of_beq_eq_false rfl)).trans ((zupd_k (Nat.ne_of_beq_eq_false rfl)).trans ((zupd_k (Nat.ne_of_beq_eq_false rfl)).trans hR.1))))))) rfl ?_
                refine z_il iX11_edge_156 rfl ?_
                refine z_cl iX11_edge_158 ?_
                refine z_last iX11_edge_159 ((zupd_k (Nat.ne_of_beq_eq_false rfl)).trans ((zupd_k (Nat.ne_of_beq_eq_false rfl)).trans ((zupd_k (Nat.ne_of_beq_eq_false rfl)).trans ((zupd_k (Nat.ne_of_beq_eq_false rfl)).trans ((zupd_k (Nat.ne_of_beq_eq_false rfl)).trans ((zupd_k (Nat.ne_of_beq_eq_false rfl)).trans ((zupd_k (Nat.ne_of_beq_eq_false rfl)).trans hR.2.2))))))) (by decide) (zCnt (c := 24) hV.1.1 (by decide) rfl (by assumption)).1 (zLt2 (N := 24) (zCnt (c := 24) hV.1.1 (by decide) rfl (by assumption)).2) ?_
                refine z_al iX11_edge_160 rfl ?_
                refine z_gf iX11_edge_161 ((zupd_k (Nat.ne_of_beq_eq_false rfl)).trans ((zupd_k (Nat.ne_of_beq_eq_false rfl)).trans ((zupd_k (Nat.ne_of_beq_eq_false rfl)).trans ((zupd_k (Nat.ne_of_beq_eq_false rfl)).trans ((zupd_k (Nat.ne_of_beq_eq_false rfl)).trans ((zupd_k (Nat.ne_of_beq_eq_false rfl)).trans ((zupd_k (Nat.ne_of_beq_eq_false rfl)).trans ((zupd_k (Nat.ne_of_beq_eq_false rfl)).trans hR.1)))))))) rfl ?_
                refine z_il iX11_edge_164 rfl ?_
                refine z_co iX11_edge_166 ?_
                refine z_iast iX11_edge_167 ((zupd_k (Nat.ne_of_beq_eq_false rfl)).trans ((zupd_i (Nat.ne_of_beq_eq_false rfl)).trans ((zupd_i (Nat.ne_of_beq_eq_false rfl)).trans ((zupd_i (Nat.ne_of_beq_eq_false rfl)).trans ((zupd_i (Nat.ne_of_beq_eq_false rfl)).trans ((zupd_i (Nat.ne_of_beq_eq_false rfl)).trans ((zupd_i (Nat.ne_of_beq_eq_false rfl)).trans ((zupd_i (Nat.ne_of_beq_eq_false rfl)).trans (hR.2.1 7 (by decide)))))))))) (by decide) (zCnt (c := 24) hV.1.1 (by decide) rfl (by assumption)).1 (zLt2 (N := 24) (zCnt (c := 24) hV.1.1 (by decide) rfl (by assumption)).2) ?_
                refine z_al iX11_edge_168 rfl ?_
                refine z_gf iX11_edge_169 ((zupd_k (Nat.ne_of_beq_eq_false rfl)).trans ((zupd_k (Nat.ne_of_beq_eq_false rfl)).trans ((zupd_k (Nat.ne_of_beq_eq_false rfl)).trans ((zupd_k (Nat.ne_of_beq_eq_false rfl)).trans ((zupd_k (Nat.ne_of_beq_eq_false rfl)).trans ((zupd_k (Nat.ne_of_beq_eq_false rfl)).trans ((zupd_k (Nat.ne_of_beq_eq_false rfl)).trans ((zupd_k (Nat.ne_of_beq_eq_false rfl)).trans ((zupd_k (Nat.ne_of_beq_eq_false rfl)).trans hR.1))))))))) rfl ?_
                refine z_il iX11_edge_172 rfl ?_
                refine z_co iX11_edge_174 ?_
                refine z_iast iX11_edge_175 ((zupd_i (Nat.ne_of_beq_eq_false rfl)).trans ((zupd_k (Nat.ne_of_beq_eq_false rfl)).trans ((zupd_i (Nat.ne_of_beq_eq_false rfl)).trans ((zupd_i (Nat.ne_of_beq_eq_false rfl)).trans ((zupd_i (Nat.ne_of_beq_eq_false rfl)).trans ((zupd_i (Nat.ne_of_beq_eq_false rfl)).trans ((zupd_i (Nat.ne_of_beq_eq_false rfl)).trans ((zupd_i (Nat.ne_of_beq_eq_false rfl)).trans ((zupd_i (Nat.ne_of_beq_eq_false rfl)).trans (hR.2.1 8 (by decide))))))))))) (by decide) (zCnt (c := 24) hV.1.1 (by decide) rfl (by assumption)).1 (zLt2 (N := 24) (zCnt (c := 24) hV.1.1 (by decide) rfl (by assumption)).2) ?_
                refine z_al iX11_edge_176 rfl ?_
                refine z_gf iX11_edge_177 ((zupd_k (Nat.ne_of_beq_eq_false rfl)).trans ((zupd_k (Nat.ne_of_beq_eq_false rfl)).trans ((zupd_k (Nat.ne_of_beq_eq_false rfl)).trans ((zupd_k (Nat.ne_of_beq_eq_false rfl)).trans ((zupd_k (Nat.ne_of_beq_eq_false rfl)).trans ((zupd_k (Nat.ne_of_beq_eq_false rfl)).trans ((zupd_k (Nat.ne_of_beq_eq_false rfl)).trans ((zupd_k (Nat.ne_of_beq_eq_false rfl)).trans ((zupd_k (Nat.ne_of_beq_eq_false rfl)).trans ((zupd_k (Nat.ne_of_beq_eq_false rfl)).trans hR.1)))))))))) rfl ?_
                refine z_il iX11_edge_180 rfl ?_
                refine z_co iX11_edge_182 ?_
                refine z_iast iX11_edge_183 ((zupd_i (Nat.ne_of_beq_eq_false rfl)).trans ((zupd_i (Nat.ne_of_beq_eq_false rfl)).trans ((zupd_k (Nat.ne_of_beq_eq_false rfl)).trans ((zupd_i (Nat.ne_of_beq_eq_false rfl)).trans ((zupd_i (Nat.ne_of_beq_eq_false rfl)).trans ((zupd_i (Nat.ne_of_beq_eq_false rfl)).trans ((zupd_i (Nat.ne_of_beq_eq_false rfl)).trans ((zupd_i (Nat.ne_of_beq_eq_false rfl)).trans ((zupd_i (Nat.ne_of_beq_eq_false rfl)).trans ((zupd_i (Nat.ne_of_beq_eq_false rfl)).trans (hR.2.1 9 (by decide)))))))))))) (by decide) (zCnt (c := 24) hV.1.1 (by decide) rfl (by assumption)).1 (zLt2 (N := 24) (zCnt (c := 24) hV.1.1 (by decide) rfl (by assumption)).2) ?_
                refine z_al iX11_edge_184 rfl ?_
                refine z_gf iX11_edge_185 ((zupd_k (Nat.ne_of_beq_eq_false rfl)).trans ((zupd_k (Nat.ne_of_beq_eq_false rfl)).trans ((zupd_k (Nat.ne_of_beq_eq_false rfl)).trans ((zupd_k (Nat.ne_of_beq_eq_false rfl)).trans ((zupd_k (Nat.ne_of_beq_eq_false rfl)).trans ((zupd_k (Nat.ne_of_beq_eq_false rfl)).trans ((zupd_k (Nat.ne_of_beq_eq_false rfl)).trans ((zupd_k (Nat.ne_of_beq_eq_false rfl)).trans ((zupd_k (Nat.ne_of_beq_eq_false rfl)).trans ((zupd_k (Nat.ne_of_beq_eq_false rfl)).trans ((zupd_k (Nat.ne_of_beq_eq_false rfl)).trans hR.1))))))))))) rfl ?_
                refine z_il iX11_edge_188 rfl ?_
                refine z_co iX11_edge_190 ?_
                refine z_iast iX11_edge_191 ((zupd_i (Nat.ne_of_beq_eq_false rfl)).trans ((zupd_i (Nat.ne_of_beq_eq_false rfl)).trans ((zupd_i (Nat.ne_of_beq_eq_false rfl)).trans ((zupd_k (Nat.ne_of_beq_eq_false rfl)).trans ((zupd_i (Nat.ne_of_beq_eq_false rfl)).trans ((zupd_i (Nat.ne_of_beq_eq_false rfl)).trans ((zupd_i (Nat.ne_of_beq_eq_false rfl)).trans ((zupd_i (Nat.ne_of_beq_eq_false rfl)).trans ((zupd_i (Nat.ne_of_beq_eq_false rfl)).trans ((zupd_i (Nat.ne_of_beq_eq_false rfl)).trans ((zupd_i (Nat.ne_of_beq_eq_false rfl)).trans (hR.2.1 11 (by decide))))))))))))) (by decide) (zCnt (c := 24) hV.1.1 (by decide) rfl (by assumption)).1 (zLt2 (N := 24) (zCnt (c := 24) hV.1.1 (by decide) rfl (by assumption)).2) ?_
                refine z_al iX11_edge_192 rfl ?_
                refine z_dup iX11_edge_193 ?_
                refine z_gf iX11_edge_194 ((zupd_k (Nat.ne_of_beq_eq_false rfl)).trans ((zupd_k (Nat.ne_of_beq_eq_false rfl)).trans ((zupd_k (Nat.ne_of_beq_eq_false rfl)).trans ((zupd_k (Nat.ne_of_beq_eq_false rfl)).trans ((zupd_k (Nat.ne_of_beq_eq_false rfl)).trans ((zupd_k (Nat.ne_of_beq_eq_false rfl)).trans ((zupd_k (Nat.ne_of_beq_eq_false rfl)).trans ((zupd_k (Nat.ne_of_beq_eq_false rfl)).trans ((zupd_k (Nat.ne_of_beq_eq_false rfl)).trans ((zupd_k (Nat.ne_of_beq_eq_false rfl)).trans ((zupd_k (Nat.ne_of_beq_eq_false rfl)).trans ((zupd_k (Nat.ne_of_beq_eq_false rfl)).trans hR.1)))))))))))) rfl ?_
                refine z_co iX11_edge_197 ?_
                refine z_iadd iX11_edge_198 ?_
                refine z_pf iX11_edge_199 ((zupd_k (Nat.ne_of_beq_eq_false rfl)).trans ((zupd_k (Nat.ne_of_beq_eq_false rfl)).trans ((zupd_k (Nat.ne_of_beq_eq_false rfl)).trans ((zupd_k (Nat.ne_of_beq_eq_false rfl)).trans ((zupd_k (Nat.ne_of_beq_eq_false rfl)).trans ((zupd_k (Nat.ne_of_beq_eq_false rfl)).trans ((zupd_k (Nat.ne_of_beq_eq_false rfl)).trans ((zupd_k (Nat.ne_of_beq_eq_false rfl)).trans ((zupd_k (Nat.ne_of_beq_eq_false rfl)).trans ((zupd_k (Nat.ne_of_beq_eq_false rfl)).trans ((zupd_k (Nat.ne_of_beq_eq_false rfl)).trans ((zupd_k (Nat.ne_of_beq_eq_false rfl)).trans hR.1)))))))))))) (by decide) (Nat.le_of_ble_eq_true rfl) trivial ?_
                refine z_il iX11_edge_202 rfl ?_
                refine z_iret iX11_edge_204 rfl ?_
                refine ⟨_, rfl, ?_⟩
                unfold sp_edge
                by_cases hk : zCor k
                · repeat' split
                  all_goals first | (exfalso; simp only [true_and, and_true, false_and, and_false, true_or, or_true, false_or, or_false, not_true_eq_false, not_false_eq_true, zN, zBw, zUnd, zCor, zi_eq, zi_le, zi_lt, Int32.reduceToInt, List.length_cons, List.length_nil] at *; omega) | (unfold sA_edge; rw [show zLeft k c = c - 1 from if_pos hk]; exact ⟨rfl, (zfr (zfr (zfr (zfr (zfr (zfr (zfr (zfr (zfr (zfr (zfr (zfr (zfr zfr_nil (by decide)) (by decide)) (by decide)) (by decide)) (by decide)) (by decide)) (by decide)) (by decide)) (by decide)) (by decide)) (by decide)) (by decide)) (by decide)), _, _, _, fun _ _ => rfl, ((((((((((((hR.arr 0 _).arr 1 _).arr 2 _).arr 3 _).arr 4 _).arr 5 _).arr 6 _).wear (L' := zup L (zN (I 0)) 0)).arr 7 _).arr 8 _).arr 9 _).arr 11 _).obj (I' := zup I 0 (I 0 + 1)) (J' := J) (K' := K) rfl⟩)
                · repeat' split
                  all_goals first | (exfalso; simp only [true_and, and_true, false_and, and_false, true_or, or_true, false_or, or_false, not_true_eq_false, not_false_eq_true, zN, zBw, zUnd, zCor, zi_eq, zi_le, zi_lt, Int32.reduceToInt, List.length_cons, List.length_nil] at *; omega) | (unfold sA_edge; rw [show zLeft k c = 0 from if_neg hk]; exact ⟨rfl, (zfr (zfr (zfr (zfr (zfr (zfr (zfr (zfr (zfr (zfr (zfr (zfr (zfr zfr_nil (by decide)) (by decide)) (by decide)) (by decide)) (by decide)) (by decide)) (by decide)) (by decide)) (by decide)) (by decide)) (by decide)) (by decide)) (by decide)), _, _, _, fun _ _ => rfl, ((((((((((((hR.arr 0 _).arr 1 _).arr 2 _).arr 3 _).arr 4 _).arr 5 _).arr 6 _).wear (L' := zup L (zN (I 0)) 0)).arr 7 _).arr 8 _).arr 9 _).arr 11 _).obj (I' := zup I 0 (I 0 + 1)) (J' := J) (K' := K) rfl⟩)
              · refine z_il iX11_edge_118 rfl ?_
                refine z_co iX11_edge_120 ?_
                refine z_isub iX11_edge_121 ?_
                refine z_goto iX11_edge_122 ?_
                refine z_iast iX11_edge_126 ((zupd_i (Nat.ne_of_beq_eq_false rfl)).trans ((zupd_i (Nat.ne_of_beq_eq_false rfl)).trans ((zupd_i (Nat.ne_of_beq_eq_false rfl)).trans (hR.2.1 3 (by decide))))) (by decide) (zCnt (c := 24) hV.1.1 (by decide) rfl (by assumption)).1 (zLt2 (N := 24) (zCnt (c := 24) hV.1.1 (by decide) rfl (by assumption)).2) ?_
                refine z_al iX11_edge_127 rfl ?_
                refine z_gf iX11_edge_128 ((zupd_k (Nat.ne_of_beq_eq_false rfl)).trans ((zupd_k (Nat.ne_of_beq_eq_false rfl)).trans ((zupd_k (Nat.ne_of_beq_eq_false rfl)).trans ((zupd_k (Nat.ne_of_beq_eq_false rfl)).trans hR.1)))) rfl ?_
                refine z_il iX11_edge_131 rfl ?_
                refine z_il iX11_edge_133 rfl ?_
                refine z_iast iX11_edge_135 ((zupd_i (Nat.ne_of_beq_eq_false rfl)).trans ((zupd_i (Nat.ne_of_beq_eq_false rfl)).trans ((zupd_i (Nat.ne_of_beq_eq_false rfl)).trans ((zupd_i (Nat.ne_of_beq_eq_false rfl)).trans (hR.2.1 4 (by decide)))))) (by decide) (zCnt (c := 24) hV.1.1 (by decide) rfl (by assumption)).1 (zLt2 (N := 24) (zCnt (c := 24) hV.1.1 (by decide) rfl (by assumption)).2) ?_
                refine z_al iX11_edge_136 rfl ?_
                refine z_gf iX11_edge_137 ((zupd_k (Nat.ne_of_beq_eq_false rfl)).trans ((zupd_k (Nat.ne_of_beq_eq_false rfl)).trans ((zupd_k (Nat.ne_of_beq_eq_false rfl)).trans ((zupd_k (Nat.ne_of_beq_eq_false rfl)).trans ((zupd_k (Nat.ne_of_beq_eq_false rfl)).trans hR.1))))) rfl ?_
                refine z_il iX11_edge_140 rfl ?_
                refine z_co iX11_edge_142 ?_
                refine z_iast iX11_edge_143 ((zupd_i (Nat.ne_of_beq_eq_false rfl)).trans ((zupd_i (Nat.ne_of_beq_eq_false rfl)).trans ((zupd_i (Nat.ne_of_beq_eq_false rfl)).trans ((zupd_i (Nat.ne_of_beq_eq_false rfl)).trans ((zupd_i (Nat.ne_of_beq_eq_false rfl)).trans (hR.2.1 5 (by decide))))))) (by decide) (zCnt (c := 24) hV.1.1 (by decide) rfl (by assumption)).1 (zLt2 (N := 24) (zCnt (c := 24) hV.1.1 (by decide) rfl (by assumption)).2) ?_
                refine z_al iX11_edge_144 rfl ?_
                refine z_gf iX11_edge_145 ((zupd_k (Nat.ne_of_beq_eq_false rfl)).trans ((zupd_k (Nat.ne_of_beq_eq_false rfl)).trans ((zupd_k (Nat.ne_of_beq_eq_false rfl)).trans ((zupd_k (Nat.ne_of_beq_eq_false rfl)).trans ((zupd_k (Nat.ne_of_beq_eq_false rfl)).trans ((zupd_k (Nat.ne_of_beq_eq_false rfl)).trans hR.1)))))) rfl ?_
                refine z_il iX11_edge_148 rfl ?_
                refine z_co iX11_edge_150 ?_
                refine z_iast iX11_edge_151 ((zupd_i (Nat.ne_of_beq_eq_false rfl)).trans ((zupd_i (Nat.ne_of_beq_eq_false rfl)).trans ((zupd_i (Nat.ne_of_beq_eq_false rfl)).trans ((zupd_i (Nat.ne_of_beq_eq_false rfl)).trans ((zupd_i (Nat.ne_of_beq_eq_false rfl)).trans ((zupd_i (Nat.ne_of_beq_eq_false rfl)).trans (hR.2.1 6 (by decide)))))))) (by decide) (zCnt (c := 24) hV.1.1 (by decide) rfl (by assumption)).1 (zLt2 (N := 24) (zCnt (c := 24) hV.1.1 (by decide) rfl (by assumption)).2) ?_
                refine z_al iX11_edge_152 rfl ?_
                refine z_gf iX11_edge_153 ((zupd_k (Nat.ne_of_beq_eq_false rfl)).trans ((zupd_k (Nat.ne_of_beq_eq_false rfl)).trans ((zupd_k (Nat.ne_of_beq_eq_false rfl)).trans ((zupd_k (Nat.ne_of_beq_eq_false rfl)).trans ((zupd_k (Nat.ne_of_beq_eq_false rfl)).trans ((zupd_k (Nat.ne_of_beq_eq_false rfl)).trans ((zupd_k (Nat.ne_of_beq_eq_false rfl)).trans hR.1))))))) rfl ?_
                refine z_il iX11_edge_156 rfl ?_
                refine z_cl iX11_edge_158 ?_
                refine z_last iX11_edge_159 ((zupd_k (Nat.ne_of_beq_eq_false rfl)).trans ((zupd_k (Nat.ne_of_beq_eq_false rfl)).trans ((zupd_k (Nat.ne_of_beq_eq_false rfl)).trans ((zupd_k (Nat.ne_of_beq_eq_false rfl)).trans ((zupd_k (Nat.ne_of_beq_eq_false rfl)).trans ((zupd_k (Nat.ne_of_beq_eq_false rfl)).trans ((zupd_k (Nat.ne_of_beq_eq_false rfl)).trans hR.2.2))))))) (by decide) (zCnt (c := 24) hV.1.1 (by decide) rfl (by assumption)).1 (zLt2 (N := 24) (zCnt (c := 24) hV.1.1 (by decide) rfl (by assumption)).2) ?_
                refine z_al iX11_edge_160 rfl ?_
                refine z_gf iX11_edge_161 ((zupd_k (Nat.ne_of_beq_eq_false rfl)).trans ((zupd_k (Nat.ne_of_beq_eq_false rfl)).trans ((zupd_k (Nat.ne_of_beq_eq_false rfl)).trans ((zupd_k (Nat.ne_of_beq_eq_false rfl)).trans ((zupd_k (Nat.ne_of_beq_eq_false rfl)).trans ((zupd_k (Nat.ne_of_beq_eq_false rfl)).trans ((zupd_k (Nat.ne_of_beq_eq_false rfl)).trans ((zupd_k (Nat.ne_of_beq_eq_false rfl)).trans hR.1)))))))) rfl ?_
                refine z_il iX11_edge_164 rfl ?_
                refine z_co iX11_edge_166 ?_
                refine z_iast iX11_edge_167 ((zupd_k (Nat.ne_of_beq_eq_false rfl)).trans ((zupd_i (Nat.ne_of_beq_eq_false rfl)).trans ((zupd_i (Nat.ne_of_beq_eq_false rfl)).trans ((zupd_i (Nat.ne_of_beq_eq_false rfl)).trans ((zupd_i (Nat.ne_of_beq_eq_false rfl)).trans ((zupd_i (Nat.ne_of_beq_eq_false rfl)).trans ((zupd_i (Nat.ne_of_beq_eq_false rfl)).trans ((zupd_i (Nat.ne_of_beq_eq_false rfl)).trans (hR.2.1 7 (by decide)))))))))) (by decide) (zCnt (c := 24) hV.1.1 (by decide) rfl (by assumption)).1 (zLt2 (N := 24) (zCnt (c := 24) hV.1.1 (by decide) rfl (by assumption)).2) ?_
                refine z_al iX11_edge_168 rfl ?_
                refine z_gf iX11_edge_169 ((zupd_k (Nat.ne_of_beq_eq_false rfl)).trans ((zupd_k (Nat.ne_of_beq_eq_false rfl)).trans ((zupd_k (Nat.ne_of_beq_eq_false rfl)).trans ((zupd_k (Nat.ne_of_beq_eq_false rfl)).trans ((zupd_k (Nat.ne_of_beq_eq_false rfl)).trans ((zupd_k (Nat.ne_of_beq_eq_false rfl)).trans ((zupd_k (Nat.ne_of_beq_eq_false rfl)).trans ((zupd_k (Nat.ne_of_beq_eq_false rfl)).trans ((zupd_k (Nat.ne_of_beq_eq_false rfl)).trans hR.1))))))))) rfl ?_
                refine z_il iX11_edge_172 rfl ?_
                refine z_co iX11_edge_174 ?_
                refine z_iast iX11_edge_175 ((zupd_i (Nat.ne_of_beq_eq_false rfl)).trans ((zupd_k (Nat.ne_of_beq_eq_false rfl)).trans ((zupd_i (Nat.ne_of_beq_eq_false rfl)).trans ((zupd_i (Nat.ne_of_beq_eq_false rfl)).trans ((zupd_i (Nat.ne_of_beq_eq_false rfl)).trans ((zupd_i (Nat.ne_of_beq_eq_false rfl)).trans ((zupd_i (Nat.ne_of_beq_eq_false rfl)).trans ((zupd_i (Nat.ne_of_beq_eq_false rfl)).trans ((zupd_i (Nat.ne_of_beq_eq_false rfl)).trans (hR.2.1 8 (by decide))))))))))) (by decide) (zCnt (c := 24) hV.1.1 (by decide) rfl (by assumption)).1 (zLt2 (N := 24) (zCnt (c := 24) hV.1.1 (by decide) rfl (by assumption)).2) ?_
                refine z_al iX11_edge_176 rfl ?_
                refine z_gf iX11_edge_177 ((zupd_k (Nat.ne_of_beq_eq_false rfl)).trans ((zupd_k (Nat.ne_of_beq_eq_false rfl)).trans ((zupd_k (Nat.ne_of_beq_eq_false rfl)).trans ((zupd_k (Nat.ne_of_beq_eq_false rfl)).trans ((zupd_k (Nat.ne_of_beq_eq_false rfl)).trans ((zupd_k (Nat.ne_of_beq_eq_false rfl)).trans ((zupd_k (Nat.ne_of_beq_eq_false rfl)).trans ((zupd_k (Nat.ne_of_beq_eq_false rfl)).trans ((zupd_k (Nat.ne_of_beq_eq_false rfl)).trans ((zupd_k (Nat.ne_of_beq_eq_false rfl)).trans hR.1)))))))))) rfl ?_
                refine z_il iX11_edge_180 rfl ?_
                refine z_co iX11_edge_182 ?_
                refine z_iast iX11_edge_183 ((zupd_i (Nat.ne_of_beq_eq_false rfl)).trans ((zupd_i (Nat.ne_of_beq_eq_false rfl)).trans ((zupd_k (Nat.ne_of_beq_eq_false rfl)).trans ((zupd_i (Nat.ne_of_beq_eq_false rfl)).trans ((zupd_i (Nat.ne_of_beq_eq_false rfl)).trans ((zupd_i (Nat.ne_of_beq_eq_false rfl)).trans ((zupd_i (Nat.ne_of_beq_eq_false rfl)).trans ((zupd_i (Nat.ne_of_beq_eq_false rfl)).trans ((zupd_i (Nat.ne_of_beq_eq_false rfl)).trans ((zupd_i (Nat.ne_of_beq_eq_false rfl)).trans (hR.2.1 9 (by decide)))))))))))) (by decide) (zCnt (c := 24) hV.1.1 (by decide) rfl (by assumption)).1 (zLt2 (N := 24) (zCnt (c := 24) hV.1.1 (by decide) rfl (by assumption)).2) ?_
                refine z_al iX11_edge_184 rfl ?_
                refine z_gf iX11_edge_185 ((zupd_k (Nat.ne_of_beq_eq_false rfl)).trans ((zupd_k (Nat.ne_of_beq_eq_false rfl)).trans ((zupd_k (Nat.ne_of_beq_eq_false rfl)).trans ((zupd_k (Nat.ne_of_beq_eq_false rfl)).trans ((zupd_k (Nat.ne_of_beq_eq_false rfl)).trans ((zupd_k (Nat.ne_of_beq_eq_false rfl)).trans ((zupd_k (Nat.ne_of_beq_eq_false rfl)).trans ((zupd_k (Nat.ne_of_beq_eq_false rfl)).trans ((zupd_k (Nat.ne_of_beq_eq_false rfl)).trans ((zupd_k (Nat.ne_of_beq_eq_false rfl)).trans ((zupd_k (Nat.ne_of_beq_eq_false rfl)).trans hR.1))))))))))) rfl ?_
                refine z_il iX11_edge_188 rfl ?_
                refine z_co iX11_edge_190 ?_
                refine z_iast iX11_edge_191 ((zupd_i (Nat.ne_of_beq_eq_false rfl)).trans ((zupd_i (Nat.ne_of_beq_eq_false rfl)).trans ((zupd_i (Nat.ne_of_beq_eq_false rfl)).trans ((zupd_k (Nat.ne_of_beq_eq_false rfl)).trans ((zupd_i (Nat.ne_of_beq_eq_false rfl)).trans ((zupd_i (Nat.ne_of_beq_eq_false rfl)).trans ((zupd_i (Nat.ne_of_beq_eq_false rfl)).trans ((zupd_i (Nat.ne_of_beq_eq_false rfl)).trans ((zupd_i (Nat.ne_of_beq_eq_false rfl)).trans ((zupd_i (Nat.ne_of_beq_eq_false rfl)).trans ((zupd_i (Nat.ne_of_beq_eq_false rfl)).trans (hR.2.1 11 (by decide))))))))))))) (by decide) (zCnt (c := 24) hV.1.1 (by decide) rfl (by assumption)).1 (zLt2 (N := 24) (zCnt (c := 24) hV.1.1 (by decide) rfl (by assumption)).2) ?_
                refine z_al iX11_edge_192 rfl ?_
                refine z_dup iX11_edge_193 ?_
                refine z_gf iX11_edge_194 ((zupd_k (Nat.ne_of_beq_eq_false rfl)).trans ((zupd_k (Nat.ne_of_beq_eq_false rfl)).trans ((zupd_k (Nat.ne_of_beq_eq_false rfl)).trans ((zupd_k (Nat.ne_of_beq_eq_false rfl)).trans ((zupd_k (Nat.ne_of_beq_eq_false rfl)).trans ((zupd_k (Nat.ne_of_beq_eq_false rfl)).trans ((zupd_k (Nat.ne_of_beq_eq_false rfl)).trans ((zupd_k (Nat.ne_of_beq_eq_false rfl)).trans ((zupd_k (Nat.ne_of_beq_eq_false rfl)).trans ((zupd_k (Nat.ne_of_beq_eq_false rfl)).trans ((zupd_k (Nat.ne_of_beq_eq_false rfl)).trans ((zupd_k (Nat.ne_of_beq_eq_false rfl)).trans hR.1)))))))))))) rfl ?_
                refine z_co iX11_edge_197 ?_
                refine z_iadd iX11_edge_198 ?_
                refine z_pf iX11_edge_199 ((zupd_k (Nat.ne_of_beq_eq_false rfl)).trans ((zupd_k (Nat.ne_of_beq_eq_false rfl)).trans ((zupd_k (Nat.ne_of_beq_eq_false rfl)).trans ((zupd_k (Nat.ne_of_beq_eq_false rfl)).trans ((zupd_k (Nat.ne_of_beq_eq_false rfl)).trans ((zupd_k (Nat.ne_of_beq_eq_false rfl)).trans ((zupd_k (Nat.ne_of_beq_eq_false rfl)).trans ((zupd_k (Nat.ne_of_beq_eq_false rfl)).trans ((zupd_k (Nat.ne_of_beq_eq_false rfl)).trans ((zupd_k (Nat.ne_of_beq_eq_false rfl)).trans ((zupd_k (Nat.ne_of_beq_eq_false rfl)).trans ((zupd_k (Nat.ne_of_beq_eq_false rfl)).trans hR.1)))))))))))) (by decide) (Nat.le_of_ble_eq_true rfl) trivial ?_
                refine z_il iX11_edge_202 rfl ?_
                refine z_iret iX11_edge_204 rfl ?_
                refine ⟨_, rfl, ?_⟩
                unfold sp_edge
                by_cases hk : zCor k
                · repeat' split
                  all_goals first | (exfalso; simp only [true_and, and_true, false_and, and_false, true_or, or_true, false_or, or_false, not_true_eq_false, not_false_eq_true, zN, zBw, zUnd, zCor, zi_eq, zi_le, zi_lt, Int32.reduceToInt, List.length_cons, List.length_nil] at *; omega) | (unfold sA_edge; rw [show zLeft k c = c - 1 from if_pos hk]; exact ⟨rfl, (zfr (zfr (zfr (zfr (zfr (zfr (zfr (zfr (zfr (zfr (zfr (zfr (zfr zfr_nil (by decide)) (by decide)) (by decide)) (by decide)) (by decide)) (by decide)) (by decide)) (by decide)) (by decide)) (by decide)) (by decide)) (by decide)) (by decide)), _, _, _, fun _ _ => rfl, ((((((((((((hR.arr 0 _).arr 1 _).arr 2 _).arr 3 _).arr 4 _).arr 5 _).arr 6 _).wear (L' := zup L (zN (I 0)) 0)).arr 7 _).arr 8 _).arr 9 _).arr 11 _).obj (I' := zup I 0 (I 0 + 1)) (J' := J) (K' := K) rfl⟩)
                · repeat' split
                  all_goals first | (exfalso; simp only [true_and, and_true, false_and, and_false, true_or, or_true, false_or, or_false, not_true_eq_false, not_false_eq_true, zN, zBw, zUnd, zCor, zi_eq, zi_le, zi_lt, Int32.reduceToInt, List.length_cons, List.length_nil] at *; omega) | (unfold sA_edge; rw [show zLeft k c = 0 from if_neg hk]; exact ⟨rfl, (zfr (zfr (zfr (zfr (zfr (zfr (zfr (zfr (zfr (zfr (zfr (zfr (zfr zfr_nil (by decide)) (by decide)) (by decide)) (by decide)) (by decide)) (by decide)) (by decide)) (by decide)) (by decide)) (by decide)) (by decide)) (by decide)) (by decide)), _, _, _, fun _ _ => rfl, ((((((((((((hR.arr 0 _).arr 1 _).arr 2 _).arr 3 _).arr 4 _).arr 5 _).arr 6 _).wear (L' := zup L (zN (I 0)) 0)).arr 7 _).arr 8 _).arr 9 _).arr 11 _).obj (I' := zup I 0 (I 0 + 1)) (J' := J) (K' := K) rfl⟩)
            · refine z_co iX11_edge_72 ?_
              refine z_iret iX11_edge_74 rfl ?_
              refine ⟨_, rfl, ?_⟩
              unfold sp_edge
              repeat' split
              all_goals first | exact zEM.rd hR | (exfalso; simp only [true_and, and_true, false_and, and_false, true_or, or_true, false_or, or_false, not_true_eq_false, not_false_eq_true, zN, zBw, zUnd, zCor, zi_eq, zi_le, zi_lt, Int32.reduceToInt, List.length_cons, List.length_nil] at *; omega)
          · refine z_co iX11_edge_60 ?_
            refine z_iret iX11_edge_62 rfl ?_
            refine ⟨_, rfl, ?_⟩
            unfold sp_edge
            repeat' split
            all_goals first | exact zEM.rd hR | (exfalso; simp only [true_and, and_true, false_and, and_false, true_or, or_true, false_or, or_false, not_true_eq_false, not_false_eq_true, zN, zBw, zUnd, zCor, zi_eq, zi_le, zi_lt, Int32.reduceToInt, List.length_cons, List.length_nil] at *; omega)
        · refine z_il iX11_edge_37 rfl ?_
          refine z_co iX11_edge_39 ?_
          refine z_co iX11_edge_40 ?_
          refine z_cs3i (fr' := fr - 1) iX11_edge_42 zmX11_in (c11_in _ _ _) (by omega) (Nat.le_of_ble_eq_true rfl) (fun x M1 hq => ?_)
          obtain ⟨rfl, rfl⟩ := hq
          refine z_ib_eq iX11_edge_45 (fun h8 => ?_) (fun h8 => ?_)
          · refine z_co iX11_edge_60 ?_
            refine z_iret iX11_edge_62 rfl ?_
            refine ⟨_, rfl, ?_⟩
            unfold sp_edge
            repeat' split
            all_goals first | exact zEM.rd hR | (exfalso; simp only [true_and, and_true, false_and, and_false, true_or, or_true, false_or, or_false, not_true_eq_false, not_false_eq_true, zN, zBw, zUnd, zCor, zi_eq, zi_le, zi_lt, Int32.reduceToInt, List.length_cons, List.length_nil] at *; omega)
          · refine z_il iX11_edge_48 rfl ?_
            refine z_co iX11_edge_50 ?_
            refine z_co iX11_edge_51 ?_
            refine z_cs3i (fr' := fr - 1) iX11_edge_54 zmX11_in (c11_in _ _ _) (by omega) (Nat.le_of_ble_eq_true rfl) (fun x M1 hq => ?_)
            obtain ⟨rfl, rfl⟩ := hq
            refine z_ib_ne iX11_edge_57 (fun h9 => ?_) (fun h9 => ?_)
            · refine z_al iX11_edge_63 rfl ?_
              refine z_gf iX11_edge_64 hR.1 rfl ?_
              refine z_co iX11_edge_67 ?_
              refine z_icmp_ne iX11_edge_69 (fun h10 => ?_) (fun h10 => ?_)
              · refine z_al iX11_edge_75 rfl ?_
                refine z_gf iX11_edge_76 hR.1 rfl ?_
                refine z_is iX11_edge_79 ?_
                refine z_al iX11_edge_81 rfl ?_
                refine z_gf iX11_edge_82 hR.1 rfl ?_
                refine z_il iX11_edge_85 rfl ?_
                refine z_il iX11_edge_87 rfl ?_
                refine z_iast iX11_edge_88 (hR.2.1 0 (by decide)) (by decide) (zCnt (c := 24) hV.1.1 (by decide) rfl (by assumption)).1 (zLt2 (N := 24) (zCnt (c := 24) hV.1.1 (by decide) rfl (by assumption)).2) ?_
                refine z_al iX11_edge_89 rfl ?_
                refine z_gf iX11_edge_90 ((zupd_k (Nat.ne_of_beq_eq_false rfl)).trans hR.1) rfl ?_
                refine z_il iX11_edge_93 rfl ?_
                refine z_il iX11_edge_95 rfl ?_
                refine z_iast iX11_edge_96 ((zupd_i (Nat.ne_of_beq_eq_false rfl)).trans (hR.2.1 1 (by decide))) (by decide) (zCnt (c := 24) hV.1.1 (by decide) rfl (by assumption)).1 (zLt2 (N := 24) (zCnt (c := 24) hV.1.1 (by decide) rfl (by assumption)).2) ?_
                refine z_al iX11_edge_97 rfl ?_
                refine z_gf iX11_edge_98 ((zupd_k (Nat.ne_of_beq_eq_false rfl)).trans ((zupd_k (Nat.ne_of_beq_eq_false rfl)).trans hR.1)) rfl ?_
                refine z_il iX11_edge_101 rfl ?_
                refine z_il iX11_edge_103 rfl ?_
                refine z_iast iX11_edge_104 ((zupd_i (Nat.ne_of_beq_eq_false rfl)).trans ((zupd_i (Nat.ne_of_beq_eq_false rfl)).trans (hR.2.1 2 (by decide)))) (by decide) (zCnt (c := 24) hV.1.1 (by decide) rfl (by assumption)).1 (zLt2 (N := 24) (zCnt (c := 24) hV.1.1 (by decide) rfl (by assumption)).2) ?_
                refine z_al iX11_edge_105 rfl ?_
                refine z_gf iX11_edge_106 ((zupd_k (Nat.ne_of_beq_eq_false rfl)).trans ((zupd_k (Nat.ne_of_beq_eq_false rfl)).trans ((zupd_k (Nat.ne_of_beq_eq_false rfl)).trans hR.1))) rfl ?_
                refine z_il iX11_edge_109 rfl ?_
                refine z_il iX11_edge_111 rfl ?_
                refine z_cs1i (fr' := fr - 1) iX11_edge_112 zmX11_hasCorners (c11_hasCorners _) (by omega) (Nat.le_of_ble_eq_true rfl) (fun x M1 hq => ?_)
                obtain ⟨rfl, rfl⟩ := hq
                refine z_ib_eq iX11_edge_115 (fun h11 => ?_) (fun h11 => ?_)
                · refine z_co iX11_edge_125 ?_
                  refine z_iast iX11_edge_126 ((zupd_i (Nat.ne_of_beq_eq_false rfl)).trans ((zupd_i (Nat.ne_of_beq_eq_false rfl)).trans ((zupd_i (Nat.ne_of_beq_eq_false rfl)).trans (hR.2.1 3 (by decide))))) (by decide) (zCnt (c := 24) hV.1.1 (by decide) rfl (by assumption)).1 (zLt2 (N := 24) (zCnt (c := 24) hV.1.1 (by decide) rfl (by assumption)).2) ?_
                  refine z_al iX11_edge_127 rfl ?_
                  refine z_gf iX11_edge_128 ((zupd_k (Nat.ne_of_beq_eq_false rfl)).trans ((zupd_k (Nat.ne_of_beq_eq_false rfl)).trans ((zupd_k (Nat.ne_of_beq_eq_false rfl)).trans ((zupd_k (Nat.ne_of_beq_eq_false rfl)).trans hR.1)))) rfl ?_
                  refine z_il iX11_edge_131 rfl ?_
                  refine z_il iX11_edge_133 rfl ?_
                  refine z_iast iX11_edge_135 ((zupd_i (Nat.ne_of_beq_eq_false rfl)).trans ((zupd_i (Nat.ne_of_beq_eq_false rfl)).trans ((zupd_i (Nat.ne_of_beq_eq_false rfl)).trans ((zupd_i (Nat.ne_of_beq_eq_false rfl)).trans (hR.2.1 4 (by decide)))))) (by decide) (zCnt (c := 24) hV.1.1 (by decide) rfl (by assumption)).1 (zLt2 (N := 24) (zCnt (c := 24) hV.1.1 (by decide) rfl (by assumption)).2) ?_
                  refine z_al iX11_edge_136 rfl ?_
                  refine z_gf iX11_edge_137 ((zupd_k (Nat.ne_of_beq_eq_false rfl)).trans ((zupd_k (Nat.ne_of_beq_eq_false rfl)).trans ((zupd_k (Nat.ne_of_beq_eq_false rfl)).trans ((zupd_k (Nat.ne_of_beq_eq_false rfl)).trans ((zupd_k (Nat.ne_of_beq_eq_false rfl)).trans hR.1))))) rfl ?_
                  refine z_il iX11_edge_140 rfl ?_
                  refine z_co iX11_edge_142 ?_
                  refine z_iast iX11_edge_143 ((zupd_i (Nat.ne_of_beq_eq_false rfl)).trans ((zupd_i (Nat.ne_of_beq_eq_false rfl)).trans ((zupd_i (Nat.ne_of_beq_eq_false rfl)).trans ((zupd_i (Nat.ne_of_beq_eq_false rfl)).trans ((zupd_i (Nat.ne_of_beq_eq_false rfl)).trans (hR.2.1 5 (by decide))))))) (by decide) (zCnt (c := 24) hV.1.1 (by decide) rfl (by assumption)).1 (zLt2 (N := 24) (zCnt (c := 24) hV.1.1 (by decide) rfl (by assumption)).2) ?_
                  refine z_al iX11_edge_144 rfl ?_
                  refine z_gf iX11_edge_145 ((zupd_k (Nat.ne_of_beq_eq_false rfl)).trans ((zupd_k (Nat.ne_of_beq_eq_false rfl)).trans ((zupd_k (Nat.ne_of_beq_eq_false rfl)).trans ((zupd_k (Nat.ne_of_beq_eq_false rfl)).trans ((zupd_k (Nat.ne_of_beq_eq_false rfl)).trans ((zupd_k (Nat.ne_of_beq_eq_false rfl)).trans hR.1)))))) rfl ?_
                  refine z_il iX11_edge_148 rfl ?_
                  refine z_co iX11_edge_150 ?_
                  refine z_iast iX11_edge_151 ((zupd_i (Nat.ne_of_beq_eq_false rfl)).trans ((zupd_i (Nat.ne_of_beq_eq_false rfl)).trans ((zupd_i (Nat.ne_of_beq_eq_false rfl)).trans ((zupd_i (Nat.ne_of_beq_eq_false rfl)).trans ((zupd_i (Nat.ne_of_beq_eq_false rfl)).trans ((zupd_i (Nat.ne_of_beq_eq_false rfl)).trans (hR.2.1 6 (by decide)))))))) (by decide) (zCnt (c := 24) hV.1.1 (by decide) rfl (by assumption)).1 (zLt2 (N := 24) (zCnt (c := 24) hV.1.1 (by decide) rfl (by assumption)).2) ?_
                  refine z_al iX11_edge_152 rfl ?_
                  refine z_gf iX11_edge_153 ((zupd_k (Nat.ne_of_beq_eq_false rfl)).trans ((zupd_k (Nat.ne_of_beq_eq_false rfl)).trans ((zupd_k (Nat.ne_of_beq_eq_false rfl)).trans ((zupd_k (Nat.ne_of_beq_eq_false rfl)).trans ((zupd_k (Nat.ne_of_beq_eq_false rfl)).trans ((zupd_k (Nat.ne_of_beq_eq_false rfl)).trans ((zupd_k (Nat.ne_of_beq_eq_false rfl)).trans hR.1))))))) rfl ?_
                  refine z_il iX11_edge_156 rfl ?_
                  refine z_cl iX11_edge_158 ?_
                  refine z_last iX11_edge_159 ((zupd_k (Nat.ne_of_beq_eq_false rfl)).trans ((zupd_k (Nat.ne_of_beq_eq_false rfl)).trans ((zupd_k (Nat.ne_of_beq_eq_false rfl)).trans ((zupd_k (Nat.ne_of_beq_eq_false rfl)).trans ((zupd_k (Nat.ne_of_beq_eq_false rfl)).trans ((zupd_k (Nat.ne_of_beq_eq_false rfl)).trans ((zupd_k (Nat.ne_of_beq_eq_false rfl)).trans hR.2.2))))))) (by decide) (zCnt (c := 24) hV.1.1 (by decide) rfl (by assumption)).1 (zLt2 (N := 24) (zCnt (c := 24) hV.1.1 (by decide) rfl (by assumption)).2) ?_
                  refine z_al iX11_edge_160 rfl ?_
                  refine z_gf iX11_edge_161 ((zupd_k (Nat.ne_of_beq_eq_false rfl)).trans ((zupd_k (Nat.ne_of_beq_eq_false rfl)).trans ((zupd_k (Nat.ne_of_beq_eq_false rfl)).trans ((zupd_k (Nat.ne_of_beq_eq_false rfl)).trans ((zupd_k (Nat.ne_of_beq_eq_false rfl)).trans ((zupd_k (Nat.ne_of_beq_eq_false rfl)).trans ((zupd_k (Nat.ne_of_beq_eq_false rfl)).trans ((zupd_k (Nat.ne_of_beq_eq_false rfl)).trans hR.1)))))))) rfl ?_
                  refine z_il iX11_edge_164 rfl ?_
                  refine z_co iX11_edge_166 ?_
                  refine z_iast iX11_edge_167 ((zupd_k (Nat.ne_of_beq_eq_false rfl)).trans ((zupd_i (Nat.ne_of_beq_eq_false rfl)).trans ((zupd_i (Nat.ne_of_beq_eq_false rfl)).trans ((zupd_i (Nat.ne_of_beq_eq_false rfl)).trans ((zupd_i (Nat.ne_of_beq_eq_false rfl)).trans ((zupd_i (Nat.ne_of_beq_eq_false rfl)).trans ((zupd_i (Nat.ne_of_beq_eq_false rfl)).trans ((zupd_i (Nat.ne_of_beq_eq_false rfl)).trans (hR.2.1 7 (by decide)))))))))) (by decide) (zCnt (c := 24) hV.1.1 (by decide) rfl (by assumption)).1 (zLt2 (N := 24) (zCnt (c := 24) hV.1.1 (by decide) rfl (by assumption)).2) ?_
                  refine z_al iX11_edge_168 rfl ?_
                  refine z_gf iX11_edge_169 ((zupd_k (Nat.ne_of_beq_eq_false rfl)).trans ((zupd_k (Nat.ne_of_beq_eq_false rfl)).trans ((zupd_k (Nat.ne_of_beq_eq_false rfl)).trans ((zupd_k (Nat.ne_of_beq_eq_false rfl)).trans ((zupd_k (Nat.ne_of_beq_eq_false rfl)).trans ((zupd_k (Nat.ne_of_beq_eq_false rfl)).trans ((zupd_k (Nat.ne_of_beq_eq_false rfl)).trans ((zupd_k (Nat.ne_of_beq_eq_false rfl)).trans ((zupd_k (Nat.ne_of_beq_eq_false rfl)).trans hR.1))))))))) rfl ?_
                  refine z_il iX11_edge_172 rfl ?_
                  refine z_co iX11_edge_174 ?_
                  refine z_iast iX11_edge_175 ((zupd_i (Nat.ne_of_beq_eq_false rfl)).trans ((zupd_k (Nat.ne_of_beq_eq_false rfl)).trans ((zupd_i (Nat.ne_of_beq_eq_false rfl)).trans ((zupd_i (Nat.ne_of_beq_eq_false rfl)).trans ((zupd_i (Nat.ne_of_beq_eq_false rfl)).trans ((zupd_i (Nat.ne_of_beq_eq_false rfl)).trans ((zupd_i (Nat.ne_of_beq_eq_false rfl)).trans ((zupd_i (Nat.ne_of_beq_eq_false rfl)).trans ((zupd_i (Nat.ne_of_beq_eq_false rfl)).trans (hR.2.1 8 (by decide))))))))))) (by decide) (zCnt (c := 24) hV.1.1 (by decide) rfl (by assumption)).1 (zLt2 (N := 24) (zCnt (c := 24) hV.1.1 (by decide) rfl (by assumption)).2) ?_
                  refine z_al iX11_edge_176 rfl ?_
                  refine z_gf iX11_edge_177 ((zupd_k (Nat.ne_of_beq_eq_false rfl)).trans ((zupd_k (Nat.ne_of_beq_eq_false rfl)).trans ((zupd_k (Nat.ne_of_beq_eq_false rfl)).trans ((zupd_k (Nat.ne_of_beq_eq_false rfl)).trans ((zupd_k (Nat.ne_of_beq_eq_false rfl)).trans ((zupd_k (Nat.ne_of_beq_eq_false rfl)).trans ((zupd_k (Nat.ne_of_beq_eq_false rfl)).trans ((zupd_k (Nat.ne_of_beq_eq_false rfl)).trans ((zupd_k (Nat.ne_of_beq_eq_false rfl)).trans ((zupd_k (Nat.ne_of_beq_eq_false rfl)).trans hR.1)))))))))) rfl ?_
                  refine z_il iX11_edge_180 rfl ?_
                  refine z_co iX11_edge_182 ?_
                  refine z_iast iX11_edge_183 ((zupd_i (Nat.ne_of_beq_eq_false rfl)).trans ((zupd_i (Nat.ne_of_beq_eq_false rfl)).trans ((zupd_k (Nat.ne_of_beq_eq_false rfl)).trans ((zupd_i (Nat.ne_of_beq_eq_false rfl)).trans ((zupd_i (Nat.ne_of_beq_eq_false rfl)).trans ((zupd_i (Nat.ne_of_beq_eq_false rfl)).trans ((zupd_i (Nat.ne_of_beq_eq_false rfl)).trans ((zupd_i (Nat.ne_of_beq_eq_false rfl)).trans ((zupd_i (Nat.ne_of_beq_eq_false rfl)).trans ((zupd_i (Nat.ne_of_beq_eq_false rfl)).trans (hR.2.1 9 (by decide)))))))))))) (by decide) (zCnt (c := 24) hV.1.1 (by decide) rfl (by assumption)).1 (zLt2 (N := 24) (zCnt (c := 24) hV.1.1 (by decide) rfl (by assumption)).2) ?_
                  refine z_al iX11_edge_184 rfl ?_
                  refine z_gf iX11_edge_185 ((zupd_k (Nat.ne_of_beq_eq_false rfl)).trans ((zupd_k (Nat.ne_of_beq_eq_false rfl)).trans ((zupd_k (Nat.ne_of_beq_eq_false rfl)).trans ((zupd_k (Nat.ne_of_beq_eq_false rfl)).trans ((zupd_k (Nat.ne_of_beq_eq_false rfl)).trans ((zupd_k (Nat.ne_of_beq_eq_false rfl)).trans ((zupd_k (Nat.ne_of_beq_eq_false rfl)).trans ((zupd_k (Nat.ne_of_beq_eq_false rfl)).trans ((zupd_k (Nat.ne_of_beq_eq_false rfl)).trans ((zupd_k (Nat.ne_of_beq_eq_false rfl)).trans ((zupd_k (Nat.ne_of_beq_eq_false rfl)).trans hR.1))))))))))) rfl ?_
                  refine z_il iX11_edge_188 rfl ?_
                  refine z_co iX11_edge_190 ?_
                  refine z_iast iX11_edge_191 ((zupd_i (Nat.ne_of_beq_eq_false rfl)).trans ((zupd_i (Nat.ne_of_beq_eq_false rfl)).trans ((zupd_i (Nat.ne_of_beq_eq_false rfl)).trans ((zupd_k (Nat.ne_of_beq_eq_false rfl)).trans ((zupd_i (Nat.ne_of_beq_eq_false rfl)).trans ((zupd_i (Nat.ne_of_beq_eq_false rfl)).trans ((zupd_i (Nat.ne_of_beq_eq_false rfl)).trans ((zupd_i (Nat.ne_of_beq_eq_false rfl)).trans ((zupd_i (Nat.ne_of_beq_eq_false rfl)).trans ((zupd_i (Nat.ne_of_beq_eq_false rfl)).trans ((zupd_i (Nat.ne_of_beq_eq_false rfl)).trans (hR.2.1 11 (by decide))))))))))))) (by decide) (zCnt (c := 24) hV.1.1 (by decide) rfl (by assumption)).1 (zLt2 (N := 24) (zCnt (c := 24) hV.1.1 (by decide) rfl (by assumption)).2) ?_
                  refine z_al iX11_edge_192 rfl ?_
                  refine z_dup iX11_edge_193 ?_
                  refine z_gf iX11_edge_194 ((zupd_k (Nat.ne_of_beq_eq_false rfl)).trans ((zupd_k (Nat.ne_of_beq_eq_false rfl)).trans ((zupd_k (Nat.ne_of_beq_eq_false rfl)).trans ((zupd_k (Nat.ne_of_beq_eq_false rfl)).trans ((zupd_k (Nat.ne_of_beq_eq_false rfl)).trans ((zupd_k (Nat.ne_of_beq_eq_false rfl)).trans ((zupd_k (Nat.ne_of_beq_eq_false rfl)).trans ((zupd_k (Nat.ne_of_beq_eq_false rfl)).trans ((zupd_k (Nat.ne_of_beq_eq_false rfl)).trans ((zupd_k (Nat.ne_of_beq_eq_false rfl)).trans ((zupd_k (Nat.ne_of_beq_eq_false rfl)).trans ((zupd_k (Nat.ne_of_beq_eq_false rfl)).trans hR.1)))))))))))) rfl ?_
                  refine z_co iX11_edge_197 ?_
                  refine z_iadd iX11_edge_198 ?_
                  refine z_pf iX11_edge_199 ((zupd_k (Nat.ne_of_beq_eq_false rfl)).trans ((zupd_k (Nat.ne_of_beq_eq_false rfl)).trans ((zupd_k (Nat.ne_of_beq_eq_false rfl)).trans ((zupd_k (Nat.ne_of_beq_eq_false rfl)).trans ((zupd_k (Nat.ne_of_beq_eq_false rfl)).trans ((zupd_k (Nat.ne_of_beq_eq_false rfl)).trans ((zupd_k (Nat.ne_of_beq_eq_false rfl)).trans ((zupd_k (Nat.ne_of_beq_eq_false rfl)).trans ((zupd_k (Nat.ne_of_beq_eq_false rfl)).trans ((zupd_k (Nat.ne_of_beq_eq_false rfl)).trans ((zupd_k (Nat.ne_of_beq_eq_false rfl)).trans ((zupd_k (Nat.ne_of_beq_eq_false rfl)).trans hR.1)))))))))))) (by decide) (Nat.le_of_ble_eq_true rfl) trivial ?_
                  refine z_il iX11_edge_202 rfl ?_
                  refine z_iret iX11_edge_204 rfl ?_
                  refine ⟨_, rfl, ?_⟩
                  unfold sp_edge
                  by_cases hk : zCor k
                  · repeat' split
                    all_goals first | (exfalso; simp only [true_and, and_true, false_and, and_false, true_or, or_true, false_or, or_false, not_true_eq_false, not_false_eq_true, zN, zBw, zUnd, zCor, zi_eq, zi_le, zi_lt, Int32.reduceToInt, List.length_cons, List.length_nil] at *; omega) | (unfold sA_edge; rw [show zLeft k c = c - 1 from if_pos hk]; exact ⟨rfl, (zfr (zfr (zfr (zfr (zfr (zfr (zfr (zfr (zfr (zfr (zfr (zfr (zfr zfr_nil (by decide)) (by decide)) (by decide)) (by decide)) (by decide)) (by decide)) (by decide)) (by decide)) (by decide)) (by decide)) (by decide)) (by decide)) (by decide)), _, _, _, fun _ _ => rfl, ((((((((((((hR.arr 0 _).arr 1 _).arr 2 _).arr 3 _).arr 4 _).arr 5 _).arr 6 _).wear (L' := zup L (zN (I 0)) 0)).arr 7 _).arr 8 _).arr 9 _).arr 11 _).obj (I' := zup I 0 (I 0 + 1)) (J' := J) (K' := K) rfl⟩)
                  · repeat' split
                    all_goals first | (exfalso; simp only [true_and, and_true, false_and, and_false, true_or, or_true, false_or, or_false, not_true_eq_false, not_false_eq_true, zN, zBw, zUnd, zCor, zi_eq, zi_le, zi_lt, Int32.reduceToInt, List.length_cons, List.length_nil] at *; omega) | (unfold sA_edge; rw [show zLeft k c = 0 from if_neg hk]; exact ⟨rfl, (zfr (zfr (zfr (zfr (zfr (zfr (zfr (zfr (zfr (zfr (zfr (zfr (zfr zfr_nil (by decide)) (by decide)) (by decide)) (by decide)) (by decide)) (by decide)) (by decide)) (by decide)) (by decide)) (by decide)) (by decide)) (by decide)) (by decide)), _, _, _, fun _ _ => rfl, ((((((((((((hR.arr 0 _).arr 1 _).arr 2 _).arr 3 _).arr 4 _).arr 5 _).arr 6 _).wear (L' := zup L (zN (I 0)) 0)).arr 7 _).arr 8 _).arr 9 _).arr 11 _).obj (I' := zup I 0 (I 0 + 1)) (J' := J) (K' := K) rfl⟩)
                · refine z_il iX11_edge_118 rfl ?_
                  refine z_co iX11_edge_120 ?_
                  refine z_isub iX11_edge_121 ?_
                  refine z_goto iX11_edge_122 ?_
                  refine z_iast iX11_edge_126 ((zupd_i (Nat.ne_of_beq_eq_false rfl)).trans ((zupd_i (Nat.ne_of_beq_eq_false rfl)).trans ((zupd_i (Nat.ne_of_beq_eq_false rfl)).trans (hR.2.1 3 (by decide))))) (by decide) (zCnt (c := 24) hV.1.1 (by decide) rfl (by assumption)).1 (zLt2 (N := 24) (zCnt (c := 24) hV.1.1 (by decide) rfl (by assumption)).2) ?_
                  refine z_al iX11_edge_127 rfl ?_
                  refine z_gf iX11_edge_128 ((zupd_k (Nat.ne_of_beq_eq_false rfl)).trans ((zupd_k (Nat.ne_of_beq_eq_false rfl)).trans ((zupd_k (Nat.ne_of_beq_eq_false rfl)).trans ((zupd_k (Nat.ne_of_beq_eq_false rfl)).trans hR.1)))) rfl ?_
                  refine z_il iX11_edge_131 rfl ?_
                  refine z_il iX11_edge_133 rfl ?_
                  refine z_iast iX11_edge_135 ((zupd_i (Nat.ne_of_beq_eq_false rfl)).trans ((zupd_i (Nat.ne_of_beq_eq_false rfl)).trans ((zupd_i (Nat.ne_of_beq_eq_false rfl)).trans ((zupd_i (Nat.ne_of_beq_eq_false rfl)).trans (hR.2.1 4 (by decide)))))) (by decide) (zCnt (c := 24) hV.1.1 (by decide) rfl (by assumption)).1 (zLt2 (N := 24) (zCnt (c := 24) hV.1.1 (by decide) rfl (by assumption)).2) ?_
                  refine z_al iX11_edge_136 rfl ?_
                  refine z_gf iX11_edge_137 ((zupd_k (Nat.ne_of_beq_eq_false rfl)).trans ((zupd_k (Nat.ne_of_beq_eq_false rfl)).trans ((zupd_k (Nat.ne_of_beq_eq_false rfl)).trans ((zupd_k (Nat.ne_of_beq_eq_false rfl)).trans ((zupd_k (Nat.ne_of_beq_eq_false rfl)).trans hR.1))))) rfl ?_
                  refine z_il iX11_edge_140 rfl ?_
                  refine z_co iX11_edge_142 ?_
                  refine z_iast iX11_edge_143 ((zupd_i (Nat.ne_of_beq_eq_false rfl)).trans ((zupd_i (Nat.ne_of_beq_eq_false rfl)).trans ((zupd_i (Nat.ne_of_beq_eq_false rfl)).trans ((zupd_i (Nat.ne_of_beq_eq_false rfl)).trans ((zupd_i (Nat.ne_of_beq_eq_false rfl)).trans (hR.2.1 5 (by decide))))))) (by decide) (zCnt (c := 24) hV.1.1 (by decide) rfl (by assumption)).1 (zLt2 (N := 24) (zCnt (c := 24) hV.1.1 (by decide) rfl (by assumption)).2) ?_
                  refine z_al iX11_edge_144 rfl ?_
                  refine z_gf iX11_edge_145 ((zupd_k (Nat.ne_of_beq_eq_false rfl)).trans ((zupd_k (Nat.ne_of_beq_eq_false rfl)).trans ((zupd_k (Nat.ne_of_beq_eq_false rfl)).trans ((zupd_k (Nat.ne_of_beq_eq_false rfl)).trans ((zupd_k (Nat.ne_of_beq_eq_false rfl)).trans ((zupd_k (Nat.ne_of_beq_eq_false rfl)).trans hR.1)))))) rfl ?_
                  refine z_il iX11_edge_148 rfl ?_
                  refine z_co iX11_edge_150 ?_
                  refine z_iast iX11_edge_151 ((zupd_i (Nat.ne_of_beq_eq_false rfl)).trans ((zupd_i (Nat.ne_of_beq_eq_false rfl)).trans ((zupd_i (Nat.ne_of_beq_eq_false rfl)).trans ((zupd_i (Nat.ne_of_beq_eq_false rfl)).trans ((zupd_i (Nat.ne_of_beq_eq_false rfl)).trans ((zupd_i (Nat.ne_of_beq_eq_false rfl)).trans (hR.2.1 6 (by decide)))))))) (by decide) (zCnt (c := 24) hV.1.1 (by decide) rfl (by assumption)).1 (zLt2 (N := 24) (zCnt (c := 24) hV.1.1 (by decide) rfl (by assumption)).2) ?_
                  refine z_al iX11_edge_152 rfl ?_
                  refine z_gf iX11_edge_153 ((zupd_k (Nat.ne_of_beq_eq_false rfl)).trans ((zupd_k (Nat.ne_of_beq_eq_false rfl)).trans ((zupd_k (Nat.ne_of_beq_eq_false rfl)).trans ((zupd_k (Nat.ne_of_beq_eq_false rfl)).trans ((zupd_k (Nat.ne_of_beq_eq_false rfl)).trans ((zupd_k (Nat.ne_of_beq_eq_false rfl)).trans ((zupd_k (Nat.ne_of_beq_eq_false rfl)).trans hR.1))))))) rfl ?_
                  refine z_il iX11_edge_156 rfl ?_
                  refine z_cl iX11_edge_158 ?_
                  refine z_last iX11_edge_159 ((zupd_k (Nat.ne_of_beq_eq_false rfl)).trans ((zupd_k (Nat.ne_of_beq_eq_false rfl)).trans ((zupd_k (Nat.ne_of_beq_eq_false rfl)).trans ((zupd_k (Nat.ne_of_beq_eq_false rfl)).trans ((zupd_k (Nat.ne_of_beq_eq_false rfl)).trans ((zupd_k (Nat.ne_of_beq_eq_false rfl)).trans ((zupd_k (Nat.ne_of_beq_eq_false rfl)).trans hR.2.2))))))) (by decide) (zCnt (c := 24) hV.1.1 (by decide) rfl (by assumption)).1 (zLt2 (N := 24) (zCnt (c := 24) hV.1.1 (by decide) rfl (by assumption)).2) ?_
                  refine z_al iX11_edge_160 rfl ?_
                  refine z_gf iX11_edge_161 ((zupd_k (Nat.ne_of_beq_eq_false rfl)).trans ((zupd_k (Nat.ne_of_beq_eq_false rfl)).trans ((zupd_k (Nat.ne_of_beq_eq_false rfl)).trans ((zupd_k (Nat.ne_of_beq_eq_false rfl)).trans ((zupd_k (Nat.ne_of_beq_eq_false rfl)).trans ((zupd_k (Nat.ne_of_beq_eq_false rfl)).trans ((zupd_k (Nat.ne_of_beq_eq_false rfl)).trans ((zupd_k (Nat.ne_of_beq_eq_false rfl)).trans hR.1)))))))) rfl ?_
                  refine z_il iX11_edge_164 rfl ?_
                  refine z_co iX11_edge_166 ?_
                  refine z_iast iX11_edge_167 ((zupd_k (Nat.ne_of_beq_eq_false rfl)).trans ((zupd_i (Nat.ne_of_beq_eq_false rfl)).trans ((zupd_i (Nat.ne_of_beq_eq_false rfl)).trans ((zupd_i (Nat.ne_of_beq_eq_false rfl)).trans ((zupd_i (Nat.ne_of_beq_eq_false rfl)).trans ((zupd_i (Nat.ne_of_beq_eq_false rfl)).trans ((zupd_i (Nat.ne_of_beq_eq_false rfl)).trans ((zupd_i (Nat.ne_of_beq_eq_false rfl)).trans (hR.2.1 7 (by decide)))))))))) (by decide) (zCnt (c := 24) hV.1.1 (by decide) rfl (by assumption)).1 (zLt2 (N := 24) (zCnt (c := 24) hV.1.1 (by decide) rfl (by assumption)).2) ?_
                  refine z_al iX11_edge_168 rfl ?_
                  refine z_gf iX11_edge_169 ((zupd_k (Nat.ne_of_beq_eq_false rfl)).trans ((zupd_k (Nat.ne_of_beq_eq_false rfl)).trans ((zupd_k (Nat.ne_of_beq_eq_false rfl)).trans ((zupd_k (Nat.ne_of_beq_eq_false rfl)).trans ((zupd_k (Nat.ne_of_beq_eq_false rfl)).trans ((zupd_k (Nat.ne_of_beq_eq_false rfl)).trans ((zupd_k (Nat.ne_of_beq_eq_false rfl)).trans ((zupd_k (Nat.ne_of_beq_eq_false rfl)).trans ((zupd_k (Nat.ne_of_beq_eq_false rfl)).trans hR.1))))))))) rfl ?_
                  refine z_il iX11_edge_172 rfl ?_
                  refine z_co iX11_edge_174 ?_
                  refine z_iast iX11_edge_175 ((zupd_i (Nat.ne_of_beq_eq_false rfl)).trans ((zupd_k (Nat.ne_of_beq_eq_false rfl)).trans ((zupd_i (Nat.ne_of_beq_eq_false rfl)).trans ((zupd_i (Nat.ne_of_beq_eq_false rfl)).trans ((zupd_i (Nat.ne_of_beq_eq_false rfl)).trans ((zupd_i (Nat.ne_of_beq_eq_false rfl)).trans ((zupd_i (Nat.ne_of_beq_eq_false rfl)).trans ((zupd_i (Nat.ne_of_beq_eq_false rfl)).trans ((zupd_i (Nat.ne_of_beq_eq_false rfl)).trans (hR.2.1 8 (by decide))))))))))) (by decide) (zCnt (c := 24) hV.1.1 (by decide) rfl (by assumption)).1 (zLt2 (N := 24) (zCnt (c := 24) hV.1.1 (by decide) rfl (by assumption)).2) ?_
                  refine z_al iX11_edge_176 rfl ?_
                  refine z_gf iX11_edge_177 ((zupd_k (Nat.ne_of_beq_eq_false rfl)).trans ((zupd_k (Nat.ne_of_beq_eq_false rfl)).trans ((zupd_k (Nat.ne_of_beq_eq_false rfl)).trans ((zupd_k (Nat.ne_of_beq_eq_false rfl)).trans ((zupd_k (Nat.ne_of_beq_eq_false rfl)).trans ((zupd_k (Nat.ne_of_beq_eq_false rfl)).trans ((zupd_k (Nat.ne_of_beq_eq_false rfl)).trans ((zupd_k (Nat.ne_of_beq_eq_false rfl)).trans ((zupd_k (Nat.ne_of_beq_eq_false rfl)).trans ((zupd_k (Nat.ne_of_beq_eq_false rfl)).trans hR.1)))))))))) rfl ?_
                  refine z_il iX11_edge_180 rfl ?_
                  refine z_co iX11_edge_182 ?_
                  refine z_iast iX11_edge_183 ((zupd_i (Nat.ne_of_beq_eq_false rfl)).trans ((zupd_i (Nat.ne_of_beq_eq_false rfl)).trans ((zupd_k (Nat.ne_of_beq_eq_false rfl)).trans ((zupd_i (Nat.ne_of_beq_eq_false rfl)).trans ((zupd_i (Nat.ne_of_beq_eq_false rfl)).trans ((zupd_i (Nat.ne_of_beq_eq_false rfl)).trans ((zupd_i (Nat.ne_of_beq_eq_false rfl)).trans ((zupd_i (Nat.ne_of_beq_eq_false rfl)).trans ((zupd_i (Nat.ne_of_beq_eq_false rfl)).trans ((zupd_i (Nat.ne_of_beq_eq_false rfl)).trans (hR.2.1 9 (by decide)))))))))))) (by decide) (zCnt (c := 24) hV.1.1 (by decide) rfl (by assumption)).1 (zLt2 (N := 24) (zCnt (c := 24) hV.1.1 (by decide) rfl (by assumption)).2) ?_
                  refine z_al iX11_edge_184 rfl ?_
                  refine z_gf iX11_edge_185 ((zupd_k (Nat.ne_of_beq_eq_false rfl)).trans ((zupd_k (Nat.ne_of_beq_eq_false rfl)).trans ((zupd_k (Nat.ne_of_beq_eq_false rfl)).trans ((zupd_k (Nat.ne_of_beq_eq_false rfl)).trans ((zupd_k (Nat.ne_of_beq_eq_false rfl)).trans ((zupd_k (Nat.ne_of_beq_eq_false rfl)).trans ((zupd_k (Nat.ne_of_beq_eq_false rfl)).trans ((zupd_k (Nat.ne_of_beq_eq_false rfl)).trans ((zupd_k (Nat.ne_of_beq_eq_false rfl)).trans ((zupd_k (Nat.ne_of_beq_eq_false rfl)).trans ((zupd_k (Nat.ne_of_beq_eq_false rfl)).trans hR.1))))))))))) rfl ?_
                  refine z_il iX11_edge_188 rfl ?_
                  refine z_co iX11_edge_190 ?_
                  refine z_iast iX11_edge_191 ((zupd_i (Nat.ne_of_beq_eq_false rfl)).trans ((zupd_i (Nat.ne_of_beq_eq_false rfl)).trans ((zupd_i (Nat.ne_of_beq_eq_false rfl)).trans ((zupd_k (Nat.ne_of_beq_eq_false rfl)).trans ((zupd_i (Nat.ne_of_beq_eq_false rfl)).trans ((zupd_i (Nat.ne_of_beq_eq_false rfl)).trans ((zupd_i (Nat.ne_of_beq_eq_false rfl)).trans ((zupd_i (Nat.ne_of_beq_eq_false rfl)).trans ((zupd_i (Nat.ne_of_beq_eq_false rfl)).trans ((zupd_i (Nat.ne_of_beq_eq_false rfl)).trans ((zupd_i (Nat.ne_of_beq_eq_false rfl)).trans (hR.2.1 11 (by decide))))))))))))) (by decide) (zCnt (c := 24) hV.1.1 (by decide) rfl (by assumption)).1 (zLt2 (N := 24) (zCnt (c := 24) hV.1.1 (by decide) rfl (by assumption)).2) ?_
                  refine z_al iX11_edge_192 rfl ?_
                  refine z_dup iX11_edge_193 ?_
                  refine z_gf iX11_edge_194 ((zupd_k (Nat.ne_of_beq_eq_false rfl)).trans ((zupd_k (Nat.ne_of_beq_eq_false rfl)).trans ((zupd_k (Nat.ne_of_beq_eq_false rfl)).trans ((zupd_k (Nat.ne_of_beq_eq_false rfl)).trans ((zupd_k (Nat.ne_of_beq_eq_false rfl)).trans ((zupd_k (Nat.ne_of_beq_eq_false rfl)).trans ((zupd_k (Nat.ne_of_beq_eq_false rfl)).trans ((zupd_k (Nat.ne_of_beq_eq_false rfl)).trans ((zupd_k (Nat.ne_of_beq_eq_false rfl)).trans ((zupd_k (Nat.ne_of_beq_eq_false rfl)).trans ((zupd_k (Nat.ne_of_beq_eq_false rfl)).trans ((zupd_k (Nat.ne_of_beq_eq_false rfl)).trans hR.1)))))))))))) rfl ?_
                  refine z_co iX11_edge_197 ?_
                  refine z_iadd iX11_edge_198 ?_
                  refine z_pf iX11_edge_199 ((zupd_k (Nat.ne_of_beq_eq_false rfl)).trans ((zupd_k (Nat.ne_of_beq_eq_false rfl)).trans ((zupd_k (Nat.ne_of_beq_eq_false rfl)).trans ((zupd_k (Nat.ne_of_beq_eq_false rfl)).trans ((zupd_k (Nat.ne_of_beq_eq_false rfl)).trans ((zupd_k (Nat.ne_of_beq_eq_false rfl)).trans ((zupd_k (Nat.ne_of_beq_eq_false rfl)).trans ((zupd_k (Nat.ne_of_beq_eq_false rfl)).trans ((zupd_k (Nat.ne_of_beq_eq_false rfl)).trans ((zupd_k (Nat.ne_of_beq_eq_false rfl)).trans ((zupd_k (Nat.ne_of_beq_eq_false rfl)).trans ((zupd_k (Nat.ne_of_beq_eq_false rfl)).trans hR.1)))))))))))) (by decide) (Nat.le_of_ble_eq_true rfl) trivial ?_
                  refine z_il iX11_edge_202 rfl ?_
                  refine z_iret iX11_edge_204 rfl ?_
                  refine ⟨_, rfl, ?_⟩
                  unfold sp_edge
                  by_cases hk : zCor k
                  · repeat' split
                    all_goals first | (exfalso; simp only [true_and, and_true, false_and, and_false, true_or, or_true, false_or, or_false, not_true_eq_false, not_false_eq_true, zN, zBw, zUnd, zCor, zi_eq, zi_le, zi_lt, Int32.reduceToInt, List.length_cons, List.length_nil] at *; omega) | (unfold sA_edge; rw [show zLeft k c = c - 1 from if_pos hk]; exact ⟨rfl, (zfr (zfr (zfr (zfr (zfr (zfr (zfr (zfr (zfr (zfr (zfr (zfr (zfr zfr_nil (by decide)) (by decide)) (by decide)) (by decide)) (by decide)) (by decide)) (by decide)) (by decide)) (by decide)) (by decide)) (by decide)) (by decide)) (by decide)), _, _, _, fun _ _ => rfl, ((((((((((((hR.arr 0 _).arr 1 _).arr 2 _).arr 3 _).arr 4 _).arr 5 _).arr 6 _).wear (L' := zup L (zN (I 0)) 0)).arr 7 _).arr 8 _).arr 9 _).arr 11 _).obj (I' := zup I 0 (I 0 + 1)) (J' := J) (K' := K) rfl⟩)
                  · repeat' split
                    all_goals first | (exfalso; simp only [true_and, and_true, false_and, and_false, true_or, or_true, false_or, or_false, not_true_eq_false, not_false_eq_true, zN, zBw, zUnd, zCor, zi_eq, zi_le, zi_lt, Int32.reduceToInt, List.length_cons, List.length_nil] at *; omega) | (unfold sA_edge; rw [show zLeft k c = 0 from if_neg hk]; exact ⟨rfl, (zfr (zfr (zfr (zfr (zfr (zfr (zfr (zfr (zfr (zfr (zfr (zfr (zfr zfr_nil (by decide)) (by decide)) (by decide)) (by decide)) (by decide)) (by decide)) (by decide)) (by decide)) (by decide)) (by decide)) (by decide)) (by decide)) (by decide)), _, _, _, fun _ _ => rfl, ((((((((((((hR.arr 0 _).arr 1 _).arr 2 _).arr 3 _).arr 4 _).arr 5 _).arr 6 _).wear (L' := zup L (zN (I 0)) 0)).arr 7 _).arr 8 _).arr 9 _).arr 11 _).obj (I' := zup I 0 (I 0 + 1)) (J' := J) (K' := K) rfl⟩)
              · refine z_co iX11_edge_72 ?_
                refine z_iret iX11_edge_74 rfl ?_
                refine ⟨_, rfl, ?_⟩
                unfold sp_edge
                repeat' split
                all_goals first | exact zEM.rd hR | (exfalso; simp only [true_and, and_true, false_and, and_false, true_or, or_true, false_or, or_false, not_true_eq_false, not_false_eq_true, zN, zBw, zUnd, zCor, zi_eq, zi_le, zi_lt, Int32.reduceToInt, List.length_cons, List.length_nil] at *; omega)
            · refine z_co iX11_edge_60 ?_
              refine z_iret iX11_edge_62 rfl ?_
              refine ⟨_, rfl, ?_⟩
              unfold sp_edge
              repeat' split
              all_goals first | exact zEM.rd hR | (exfalso; simp only [true_and, and_true, false_and, and_false, true_or, or_true, false_or, or_false, not_true_eq_false, not_false_eq_true, zN, zBw, zUnd, zCor, zi_eq, zi_le, zi_lt, Int32.reduceToInt, List.length_cons, List.length_nil] at *; omega)
set_option maxRecDepth 20000 in
set_option maxHeartbeats 4000000 in
theorem px_edge {TR : zTR} {JR : zJR} {fr : Nat} {M : zM} {I : zSI} {A : zSA} {L : zSL} (hf : 4 ≤ fr) (hX : RepX TR JR M I A L) (hV : Val I A L) (k : Int32) (span : Int32) (sh : Int32) (c : Int32) (lives : Int32) : zCi zX10_edge fr 2 21 [zr (2, 0), zi k, zi span, zi sh, zi c, zi lives] M (fun x M' => zEX TR JR M x (sp_edge I A L k span sh c lives) M') := by
  refine z_enter (L := [some (zr (2, 0)), some (zi k), some (zi span), some (zi sh), some (zi c), some (zi lives)]) rfl (by decide +kernel) (Nat.le_of_ble_eq_true rfl) ?_
  have nq : (I 0).toInt ≤ (zN (I 0) : Int) := by
    have e0 : zN (I 0) = (I 0).toInt.toNat := rfl
    omega
  have nedge0 : M (28, zN (I 0)) = none := (hX.2.1.2 _ nq).1
  have nhh : M (29, zN (I 0)) = none := (hX.2.1.2 _ nq).2
  refine z_il iX10_edge_0 rfl ?_
  refine z_co iX10_edge_1 ?_
  refine z_co iX10_edge_2 ?_
  refine z_cs3i (fr' := fr - 1) iX10_edge_3 zmX10_within (c10_within _ _ _) (by omega) (Nat.le_of_ble_eq_true rfl) (fun x M1 hq => ?_)
  obtain ⟨rfl, rfl⟩ := hq
  refine z_ib_eq iX10_edge_6 (fun h1 => ?_) (fun h1 => ?_)
  · refine z_co iX10_edge_30 ?_
    refine z_iret iX10_edge_32 rfl ?_
    have hv1 := hV.1.1
    unfold zRg at hv1
    refine ⟨_, rfl, ?_⟩
    unfold sp_edge
    repeat' split
    all_goals first | exact zEX.rd hX | (exfalso; simp only [true_and, and_true, false_and, and_false, true_or, or_true, false_or, or_false, not_true_eq_false, not_false_eq_true, zN, zBw, zUnd, zCor, zi_eq, zi_le, zi_lt, Int32.reduceToInt, List.length_cons, List.length_nil] at *; omega)
  · refine z_il iX10_edge_9 rfl ?_
    refine z_co iX10_edge_10 ?_
    refine z_co iX10_edge_12 ?_
    refine z_cs3i (fr' := fr - 1) iX10_edge_15 zmX10_within (c10_within _ _ _) (by omega) (Nat.le_of_ble_eq_true rfl) (fun x M1 hq => ?_)
    obtain ⟨rfl, rfl⟩ := hq
    refine z_ib_eq iX10_edge_18 (fun h2 => ?_) (fun h2 => ?_)
    · refine z_co iX10_edge_30 ?_
      refine z_iret iX10_edge_32 rfl ?_
      have hv1 := hV.1.1
      unfold zRg at hv1
      refine ⟨_, rfl, ?_⟩
      unfold sp_edge
      repeat' split
      all_goals first | exact zEX.rd hX | (exfalso; simp only [true_and, and_true, false_and, and_false, true_or, or_true, false_or, or_false, not_true_eq_false, not_false_eq_true, zN, zBw, zUnd, zCor, zi_eq, zi_le, zi_lt, Int32.reduceToInt, List.length_cons, List.length_nil] at *; omega)
    · refine z_il iX10_edge_21 rfl ?_
      refine z_co iX10_edge_22 ?_
      refine z_il iX10_edge_23 rfl ?_
      refine z_cs3i (fr' := fr - 1) iX10_edge_24 zmX10_within (c10_within _ _ _) (by omega) (Nat.le_of_ble_eq_true rfl) (fun x M1 hq => ?_)
      obtain ⟨rfl, rfl⟩ := hq
      refine z_ib_ne iX10_edge_27 (fun h3 => ?_) (fun h3 => ?_)
      · refine z_il iX10_edge_33 rfl ?_
        refine z_co iX10_edge_34 ?_
        refine z_cs2i (fr' := fr - 1) iX10_edge_35 zmX10_isUnder (c10_isUnder _ _) (by omega) (Nat.le_of_ble_eq_true rfl) (fun x M1 hq => ?_)
        obtain ⟨rfl, rfl⟩ := hq
        refine z_is iX10_edge_38 ?_
        refine z_il iX10_edge_40 rfl ?_
        refine z_ib_eq iX10_edge_42 (fun h4 => ?_) (fun h4 => ?_)
        · refine z_il iX10_edge_59 rfl ?_
          refine z_co iX10_edge_61 ?_
          refine z_co iX10_edge_62 ?_
          refine z_cs3i (fr' := fr - 1) iX10_edge_65 zmX10_within (c10_within _ _ _) (by omega) (Nat.le_of_ble_eq_true rfl) (fun x M1 hq => ?_)
          obtain ⟨rfl, rfl⟩ := hq
          refine z_ib_ne iX10_edge_68 (fun h5 => ?_) (fun h5 => ?_)
          · refine z_al iX10_edge_74 rfl ?_
            refine z_gf iX10_edge_75 hX.1.1 rfl ?_
            refine z_co iX10_edge_78 ?_
            refine z_icmp_lt iX10_edge_80 (fun h6 => ?_) (fun h6 => ?_)
            · refine z_al iX10_edge_86 rfl ?_
              refine z_gf iX10_edge_87 hX.1.1 rfl ?_
              refine z_al iX10_edge_90 rfl ?_
              refine z_gf iX10_edge_91 hX.1.1 rfl ?_
              refine z_new (a := (28, zN (I 0))) iX10_edge_94 zfs_0 rfl nedge0 (by decide : 2 ≤ 28) ?_
              refine z_dup iX10_edge_97 ?_
              refine z_il iX10_edge_98 rfl ?_
              refine z_il iX10_edge_99 rfl ?_
              refine z_il iX10_edge_100 rfl ?_
              refine z_il iX10_edge_101 rfl ?_
              refine z_ib_eq iX10_edge_103 (fun h7 => ?_) (fun h7 => ?_)
              · refine z_co iX10_edge_113 ?_
                refine z_il iX10_edge_114 rfl ?_
                refine z_ci5vA (cm' := 0) (sm' := 0) (fr' := fr - 1) iX10_edge_116 zmX0_init (c0_init (h := (29, zN (I 0))) (by omega) (by decide : 2 ≤ 28) (by decide : 2 ≤ 29) (by decide : (28 : Nat) ≠ 29) zupd_s ((zupd_k (by decide : (29 : Nat) ≠ 28)).trans nhh) k span sh _ lives) (by omega) (Nat.le_of_ble_eq_true rfl) (fun M1 hq => ?_)
                subst hq
                refine z_aast iX10_edge_119 ((zupd_k (Nat.ne_of_beq_eq_false rfl)).trans ((zupd_k (Nat.ne_of_beq_eq_false rfl)).trans ((zupd_k (Nat.ne_of_beq_eq_false rfl)).trans hX.1.2.1))) (by decide) zupd_s rfl (fun _ => rfl) (zCntL (c := 24) hV.1.1 (by decide) rfl (by assumption)).1 (zLt2 (N := 24) (zCntL (c := 24) hV.1.1 (by decide) rfl (by assumption)).2) ?_
                refine z_al iX10_edge_120 rfl ?_
                refine z_dup iX10_edge_121 ?_
                refine z_gf iX10_edge_122 ((zupd_k (Nat.ne_of_beq_eq_false rfl)).trans ((zupd_k (Nat.ne_of_beq_eq_false rfl)).trans ((zupd_k (Nat.ne_of_beq_eq_false rfl)).trans ((zupd_k (Nat.ne_of_beq_eq_false rfl)).trans hX.1.1)))) rfl ?_
                refine z_co iX10_edge_125 ?_
                refine z_iadd iX10_edge_126 ?_
                refine z_pf iX10_edge_127 ((zupd_k (Nat.ne_of_beq_eq_false rfl)).trans ((zupd_k (Nat.ne_of_beq_eq_false rfl)).trans ((zupd_k (Nat.ne_of_beq_eq_false rfl)).trans ((zupd_k (Nat.ne_of_beq_eq_false rfl)).trans hX.1.1)))) (by decide) (Nat.le_of_ble_eq_true rfl) trivial ?_
                refine z_al iX10_edge_130 rfl ?_
                refine z_gf iX10_edge_131 zupd_s rfl ?_
                refine z_co iX10_edge_134 ?_
                refine z_isub iX10_edge_135 ?_
                refine z_iret iX10_edge_136 rfl ?_
                have hv1 := hV.1.1
                unfold zRg at hv1
                refine ⟨_, rfl, ?_⟩
                unfold sp_edge
                by_cases hk : zCor k
                · repeat' split
                  all_goals first | (exfalso; simp only [true_and, and_true, false_and, and_false, true_or, or_true, false_or, or_false, not_true_eq_false, not_false_eq_true, zN, zBw, zUnd, zCor, zi_eq, zi_le, zi_lt, Int32.reduceToInt, List.length_cons, List.length_nil] at *; omega) | exact ⟨zp1 _, zfx (zfx (zfx (zfx (zfx zfx_nil ⟨(by decide : 2 ≤ 28), (by decide : 28 < 40)⟩) ⟨(by decide : 2 ≤ 29), (by decide : 29 < 40)⟩) ⟨(by decide : 2 ≤ 28), (by decide : 28 < 40)⟩) (by decide)) (by decide), hX.newEdge (A' := sA_edge I A k span sh (zLeft k c) lives) (L' := zup L (zN (I 0)) 0) (zCntL (c := 24) hV.1.1 (by decide) rfl (by assumption)).1 (zLt2 (N := 24) (zCntL (c := 24) hV.1.1 (by decide) rfl (by assumption)).2) (fun a g1 g2 g3 g4 => (zupd_n g4).trans ((zupd_n g3).trans ((zupd_n g1).trans ((zupd_n g2).trans (zupd_n g1))))) ((zupd_k (by decide : (28 : Nat) ≠ 2)).trans ((zupd_k (by decide : (28 : Nat) ≠ 3)).trans (zupd_s.trans (by simp [xEdge, sA_edge, zA2, zup, zLeft, hk])))) ((zupd_k (by decide : (29 : Nat) ≠ 2)).trans ((zupd_k (by decide : (29 : Nat) ≠ 3)).trans ((zupd_k (by decide : (29 : Nat) ≠ 28)).trans zupd_s))) (by simp [sA_edge, zA2, zup]) ((zupd_k (by decide : (3 : Nat) ≠ 2)).trans (zupd_s.trans (by rw [xRefs_up (zCntL (c := 24) hV.1.1 (by decide) rfl (by assumption)).1 (by have g8 := (zCntL (c := 24) hV.1.1 (by decide) rfl (by assumption)); omega)]))) (zupd_s.trans rfl) (fun k g1 g2 => by unfold sA_edge; rw [zA2_row (by omega), zA2_row (by omega), zA2_row (by omega), zA2_row (by omega), zA2_row (by omega), zA2_row (by omega), zA2_row (by omega), zA2_row (by omega), zA2_row (by omega), zA2_row (by omega), zA2_row (by omega)]) (fun k j g1 => by unfold sA_edge; rw [zA2_col g1, zA2_col g1, zA2_col g1, zA2_col g1, zA2_col g1, zA2_col g1, zA2_col g1, zA2_col g1, zA2_col g1, zA2_col g1, zA2_col g1]) (fun j g => zup_n g)⟩
                · repeat' split
                  all_goals first | (exfalso; simp only [true_and, and_true, false_and, and_false, true_or, or_true, false_or, or_false, not_true_eq_false, not_false_eq_true, zN, zBw, zUnd, zCor, zi_eq, zi_le, zi_lt, Int32.reduceToInt, List.length_cons, List.length_nil] at *; omega) | exact ⟨zp1 _, zfx (zfx (zfx (zfx (zfx zfx_nil ⟨(by decide : 2 ≤ 28), (by decide : 28 < 40)⟩) ⟨(by decide : 2 ≤ 29), (by decide : 29 < 40)⟩) ⟨(by decide : 2 ≤ 28), (by decide : 28 < 40)⟩) (by decide)) (by decide), hX.newEdge (A' := sA_edge I A k span sh (zLeft k c) lives) (L' := zup L (zN (I 0)) 0) (zCntL (c := 24) hV.1.1 (by decide) rfl (by assumption)).1 (zLt2 (N := 24) (zCntL (c := 24) hV.1.1 (by decide) rfl (by assumption)).2) (fun a g1 g2 g3 g4 => (zupd_n g4).trans ((zupd_n g3).trans ((zupd_n g1).trans ((zupd_n g2).trans (zupd_n g1))))) ((zupd_k (by decide : (28 : Nat) ≠ 2)).trans ((zupd_k (by decide : (28 : Nat) ≠ 3)).trans (zupd_s.trans (by simp [xEdge, sA_edge, zA2, zup, zLeft, hk])))) ((zupd_k (by decide : (29 : Nat) ≠ 2)).trans ((zupd_k (by decide : (29 : Nat) ≠ 3)).trans ((zupd_k (by decide : (29 : Nat) ≠ 28)).trans zupd_s))) (by simp [sA_edge, zA2, zup]) ((zupd_k (by decide : (3 : Nat) ≠ 2)).trans (zupd_s.trans (by rw [xRefs_up (zCntL (c := 24) hV.1.1 (by decide) rfl (by assumption)).1 (by have g8 := (zCntL (c := 24) hV.1.1 (by decide) rfl (by assumption)); omega)]))) (zupd_s.trans rfl) (fun k g1 g2 => by unfold sA_edge; rw [zA2_row (by omega), zA2_row (by omega), zA2_row (by omega), zA2_row (by omega), zA2_row (by omega), zA2_row (by omega), zA2_row (by omega), zA2_row (by omega), zA2_row (by omega), zA2_row (by omega), zA2_row (by omega)]) (fun k j g1 => by unfold sA_edge; rw [zA2_col g1, zA2_col g1, zA2_col g1, zA2_col g1, zA2_col g1, zA2_col g1, zA2_col g1, zA2_col g1, zA2_col g1, zA2_col g1, zA2_col g1]) (fun j g => zup_n g)⟩
              · refine z_il iX10_edge_106 rfl ?_
                refine z_co iX10_edge_108 ?_
                refine z_isub iX10_edge_109 ?_
                refine z_goto iX10_edge_110 ?_
                refine z_il iX10_edge_114 rfl ?_
                refine z_ci5vA (cm' := 0) (sm' := 0) (fr' := fr - 1) iX10_edge_116 zmX0_init (c0_init (h := (29, zN (I 0))) (by omega) (by decide : 2 ≤ 28) (by decide : 2 ≤ 29) (by decide : (28 : Nat) ≠ 29) zupd_s ((zupd_k (by decide : (29 : Nat) ≠ 28)).trans nhh) k span sh _ lives) (by omega) (Nat.le_of_ble_eq_true rfl) (fun M1 hq => ?_)
                subst hq
                refine z_aast iX10_edge_119 ((zupd_k (Nat.ne_of_beq_eq_false rfl)).trans ((zupd_k (Nat.ne_of_beq_eq_false rfl)).trans ((zupd_k (Nat.ne_of_beq_eq_false rfl)).trans hX.1.2.1))) (by decide) zupd_s rfl (fun _ => rfl) (zCntL (c := 24) hV.1.1 (by decide) rfl (by assumption)).1 (zLt2 (N := 24) (zCntL (c := 24) hV.1.1 (by decide) rfl (by assumption)).2) ?_
                refine z_al iX10_edge_120 rfl ?_
                refine z_dup iX10_edge_121 ?_
                refine z_gf iX10_edge_122 ((zupd_k (Nat.ne_of_beq_eq_false rfl)).trans ((zupd_k (Nat.ne_of_beq_eq_false rfl)).trans ((zupd_k (Nat.ne_of_beq_eq_false rfl)).trans ((zupd_k (Nat.ne_of_beq_eq_false rfl)).trans hX.1.1)))) rfl ?_
                refine z_co iX10_edge_125 ?_
                refine z_iadd iX10_edge_126 ?_
                refine z_pf iX10_edge_127 ((zupd_k (Nat.ne_of_beq_eq_false rfl)).trans ((zupd_k (Nat.ne_of_beq_eq_false rfl)).trans ((zupd_k (Nat.ne_of_beq_eq_false rfl)).trans ((zupd_k (Nat.ne_of_beq_eq_false rfl)).trans hX.1.1)))) (by decide) (Nat.le_of_ble_eq_true rfl) trivial ?_
                refine z_al iX10_edge_130 rfl ?_
                refine z_gf iX10_edge_131 zupd_s rfl ?_
                refine z_co iX10_edge_134 ?_
                refine z_isub iX10_edge_135 ?_
                refine z_iret iX10_edge_136 rfl ?_
                have hv1 := hV.1.1
                unfold zRg at hv1
                refine ⟨_, rfl, ?_⟩
                unfold sp_edge
                by_cases hk : zCor k
                · repeat' split
                  all_goals first | (exfalso; simp only [true_and, and_true, false_and, and_false, true_or, or_true, false_or, or_false, not_true_eq_false, not_false_eq_true, zN, zBw, zUnd, zCor, zi_eq, zi_le, zi_lt, Int32.reduceToInt, List.length_cons, List.length_nil] at *; omega) | exact ⟨zp1 _, zfx (zfx (zfx (zfx (zfx zfx_nil ⟨(by decide : 2 ≤ 28), (by decide : 28 < 40)⟩) ⟨(by decide : 2 ≤ 29), (by decide : 29 < 40)⟩) ⟨(by decide : 2 ≤ 28), (by decide : 28 < 40)⟩) (by decide)) (by decide), hX.newEdge (A' := sA_edge I A k span sh (zLeft k c) lives) (L' := zup L (zN (I 0)) 0) (zCntL (c := 24) hV.1.1 (by decide) rfl (by assumption)).1 (zLt2 (N := 24) (zCntL (c := 24) hV.1.1 (by decide) rfl (by assumption)).2) (fun a g1 g2 g3 g4 => (zupd_n g4).trans ((zupd_n g3).trans ((zupd_n g1).trans ((zupd_n g2).trans (zupd_n g1))))) ((zupd_k (by decide : (28 : Nat) ≠ 2)).trans ((zupd_k (by decide : (28 : Nat) ≠ 3)).trans (zupd_s.trans (by simp [xEdge, sA_edge, zA2, zup, zLeft, hk])))) ((zupd_k (by decide : (29 : Nat) ≠ 2)).trans ((zupd_k (by decide : (29 : Nat) ≠ 3)).trans ((zupd_k (by decide : (29 : Nat) ≠ 28)).trans zupd_s))) (by simp [sA_edge, zA2, zup]) ((zupd_k (by decide : (3 : Nat) ≠ 2)).trans (zupd_s.trans (by rw [xRefs_up (zCntL (c := 24) hV.1.1 (by decide) rfl (by assumption)).1 (by have g8 := (zCntL (c := 24) hV.1.1 (by decide) rfl (by assumption)); omega)]))) (zupd_s.trans rfl) (fun k g1 g2 => by unfold sA_edge; rw [zA2_row (by omega), zA2_row (by omega), zA2_row (by omega), zA2_row (by omega), zA2_row (by omega), zA2_row (by omega), zA2_row (by omega), zA2_row (by omega), zA2_row (by omega), zA2_row (by omega), zA2_row (by omega)]) (fun k j g1 => by unfold sA_edge; rw [zA2_col g1, zA2_col g1, zA2_col g1, zA2_col g1, zA2_col g1, zA2_col g1, zA2_col g1, zA2_col g1, zA2_col g1, zA2_col g1, zA2_col g1]) (fun j g => zup_n g)⟩
                · repeat' split
                  all_goals first | (exfalso; simp only [true_and, and_true, false_and, and_false, true_or, or_true, false_or, or_false, not_true_eq_false, not_false_eq_true, zN, zBw, zUnd, zCor, zi_eq, zi_le, zi_lt, Int32.reduceToInt, List.length_cons, List.length_nil] at *; omega) | exact ⟨zp1 _, zfx (zfx (zfx (zfx (zfx zfx_nil ⟨(by decide : 2 ≤ 28), (by decide : 28 < 40)⟩) ⟨(by decide : 2 ≤ 29), (by decide : 29 < 40)⟩) ⟨(by decide : 2 ≤ 28), (by decide : 28 < 40)⟩) (by decide)) (by decide), hX.newEdge (A' := sA_edge I A k span sh (zLeft k c) lives) (L' := zup L (zN (I 0)) 0) (zCntL (c := 24) hV.1.1 (by decide) rfl (by assumption)).1 (zLt2 (N := 24) (zCntL (c := 24) hV.1.1 (by decide) rfl (by assumption)).2) (fun a g1 g2 g3 g4 => (zupd_n g4).trans ((zupd_n g3).trans ((zupd_n g1).trans ((zupd_n g2).trans (zupd_n g1))))) ((zupd_k (by decide : (28 : Nat) ≠ 2)).trans ((zupd_k (by decide : (28 : Nat) ≠ 3)).trans (zupd_s.trans (by simp [xEdge, sA_edge, zA2, zup, zLeft, hk])))) ((zupd_k (by decide : (29 : Nat) ≠ 2)).trans ((zupd_k (by decide : (29 : Nat) ≠ 3)).trans ((zupd_k (by decide : (29 : Nat) ≠ 28)).trans zupd_s))) (by simp [sA_edge, zA2, zup]) ((zupd_k (by decide : (3 : Nat) ≠ 2)).trans (zupd_s.trans (by rw [xRefs_up (zCntL (c := 24) hV.1.1 (by decide) rfl (by assumption)).1 (by have g8 := (zCntL (c := 24) hV.1.1 (by decide) rfl (by assumption)); omega)]))) (zupd_s.trans rfl) (fun k g1 g2 => by unfold sA_edge; rw [zA2_row (by omega), zA2_row (by omega), zA2_row (by omega), zA2_row (by omega), zA2_row (by omega), zA2_row (by omega), zA2_row (by omega), zA2_row (by omega), zA2_row (by omega), zA2_row (by omega), zA2_row (by omega)]) (fun k j g1 => by unfold sA_edge; rw [zA2_col g1, zA2_col g1, zA2_col g1, zA2_col g1, zA2_col g1, zA2_col g1, zA2_col g1, zA2_col g1, zA2_col g1, zA2_col g1, zA2_col g1]) (fun j g => zup_n g)⟩
            · refine z_co iX10_edge_83 ?_
              refine z_iret iX10_edge_85 rfl ?_
              have hv1 := hV.1.1
              unfold zRg at hv1
              refine ⟨_, rfl, ?_⟩
              unfold sp_edge
              repeat' split
              all_goals first | exact zEX.rd hX | (exfalso; simp only [true_and, and_true, false_and, and_false, true_or, or_true, false_or, or_false, not_true_eq_false, not_false_eq_true, zN, zBw, zUnd, zCor, zi_eq, zi_le, zi_lt, Int32.reduceToInt, List.length_cons, List.length_nil] at *; omega)
          · refine z_co iX10_edge_71 ?_
            refine z_iret iX10_edge_73 rfl ?_
            have hv1 := hV.1.1
            unfold zRg at hv1
            refine ⟨_, rfl, ?_⟩
            unfold sp_edge
            repeat' split
            all_goals first | exact zEX.rd hX | (exfalso; simp only [true_and, and_true, false_and, and_false, true_or, or_true, false_or, or_false, not_true_eq_false, not_false_eq_true, zN, zBw, zUnd, zCor, zi_eq, zi_le, zi_lt, Int32.reduceToInt, List.length_cons, List.length_nil] at *; omega)
        · refine z_il iX10_edge_45 rfl ?_
          refine z_co iX10_edge_47 ?_
          refine z_co iX10_edge_48 ?_
          refine z_cs3i (fr' := fr - 1) iX10_edge_50 zmX10_within (c10_within _ _ _) (by omega) (Nat.le_of_ble_eq_true rfl) (fun x M1 hq => ?_)
          obtain ⟨rfl, rfl⟩ := hq
          refine z_ib_ne iX10_edge_53 (fun h8 => ?_) (fun h8 => ?_)
          · refine z_il iX10_edge_59 rfl ?_
            refine z_co iX10_edge_61 ?_
            refine z_co iX10_edge_62 ?_
            refine z_cs3i (fr' := fr - 1) iX10_edge_65 zmX10_within (c10_within _ _ _) (by omega) (Nat.le_of_ble_eq_true rfl) (fun x M1 hq => ?_)
            obtain ⟨rfl, rfl⟩ := hq
            refine z_ib_ne iX10_edge_68 (fun h9 => ?_) (fun h9 => ?_)
            · refine z_al iX10_edge_74 rfl ?_
              refine z_gf iX10_edge_75 hX.1.1 rfl ?_
              refine z_co iX10_edge_78 ?_
              refine z_icmp_lt iX10_edge_80 (fun h10 => ?_) (fun h10 => ?_)
              · refine z_al iX10_edge_86 rfl ?_
                refine z_gf iX10_edge_87 hX.1.1 rfl ?_
                refine z_al iX10_edge_90 rfl ?_
                refine z_gf iX10_edge_91 hX.1.1 rfl ?_
                refine z_new (a := (28, zN (I 0))) iX10_edge_94 zfs_0 rfl nedge0 (by decide : 2 ≤ 28) ?_
                refine z_dup iX10_edge_97 ?_
                refine z_il iX10_edge_98 rfl ?_
                refine z_il iX10_edge_99 rfl ?_
                refine z_il iX10_edge_100 rfl ?_
                refine z_il iX10_edge_101 rfl ?_
                refine z_ib_eq iX10_edge_103 (fun h11 => ?_) (fun h11 => ?_)
                · refine z_co iX10_edge_113 ?_
                  refine z_il iX10_edge_114 rfl ?_
                  refine z_ci5vA (cm' := 0) (sm' := 0) (fr' := fr - 1) iX10_edge_116 zmX0_init (c0_init (h := (29, zN (I 0))) (by omega) (by decide : 2 ≤ 28) (by decide : 2 ≤ 29) (by decide : (28 : Nat) ≠ 29) zupd_s ((zupd_k (by decide : (29 : Nat) ≠ 28)).trans nhh) k span sh _ lives) (by omega) (Nat.le_of_ble_eq_true rfl) (fun M1 hq => ?_)
                  subst hq
                  refine z_aast iX10_edge_119 ((zupd_k (Nat.ne_of_beq_eq_false rfl)).trans ((zupd_k (Nat.ne_of_beq_eq_false rfl)).trans ((zupd_k (Nat.ne_of_beq_eq_false rfl)).trans hX.1.2.1))) (by decide) zupd_s rfl (fun _ => rfl) (zCntL (c := 24) hV.1.1 (by decide) rfl (by assumption)).1 (zLt2 (N := 24) (zCntL (c := 24) hV.1.1 (by decide) rfl (by assumption)).2) ?_
                  refine z_al iX10_edge_120 rfl ?_
                  refine z_dup iX10_edge_121 ?_
                  refine z_gf iX10_edge_122 ((zupd_k (Nat.ne_of_beq_eq_false rfl)).trans ((zupd_k (Nat.ne_of_beq_eq_false rfl)).trans ((zupd_k (Nat.ne_of_beq_eq_false rfl)).trans ((zupd_k (Nat.ne_of_beq_eq_false rfl)).trans hX.1.1)))) rfl ?_
                  refine z_co iX10_edge_125 ?_
                  refine z_iadd iX10_edge_126 ?_
                  refine z_pf iX10_edge_127 ((zupd_k (Nat.ne_of_beq_eq_false rfl)).trans ((zupd_k (Nat.ne_of_beq_eq_false rfl)).trans ((zupd_k (Nat.ne_of_beq_eq_false rfl)).trans ((zupd_k (Nat.ne_of_beq_eq_false rfl)).trans hX.1.1)))) (by decide) (Nat.le_of_ble_eq_true rfl) trivial ?_
                  refine z_al iX10_edge_130 rfl ?_
                  refine z_gf iX10_edge_131 zupd_s rfl ?_
                  refine z_co iX10_edge_134 ?_
                  refine z_isub iX10_edge_135 ?_
                  refine z_iret iX10_edge_136 rfl ?_
                  have hv1 := hV.1.1
                  unfold zRg at hv1
                  refine ⟨_, rfl, ?_⟩
                  unfold sp_edge
                  by_cases hk : zCor k
                  · repeat' split
                    all_goals first | (exfalso; simp only [true_and, and_true, false_and, and_false, true_or, or_true, false_or, or_false, not_true_eq_false, not_false_eq_true, zN, zBw, zUnd, zCor, zi_eq, zi_le, zi_lt, Int32.reduceToInt, List.length_cons, List.length_nil] at *; omega) | exact ⟨zp1 _, zfx (zfx (zfx (zfx (zfx zfx_nil ⟨(by decide : 2 ≤ 28), (by decide : 28 < 40)⟩) ⟨(by decide : 2 ≤ 29), (by decide : 29 < 40)⟩) ⟨(by decide : 2 ≤ 28), (by decide : 28 < 40)⟩) (by decide)) (by decide), hX.newEdge (A' := sA_edge I A k span sh (zLeft k c) lives) (L' := zup L (zN (I 0)) 0) (zCntL (c := 24) hV.1.1 (by decide) rfl (by assumption)).1 (zLt2 (N := 24) (zCntL (c := 24) hV.1.1 (by decide) rfl (by assumption)).2) (fun a g1 g2 g3 g4 => (zupd_n g4).trans ((zupd_n g3).trans ((zupd_n g1).trans ((zupd_n g2).trans (zupd_n g1))))) ((zupd_k (by decide : (28 : Nat) ≠ 2)).trans ((zupd_k (by decide : (28 : Nat) ≠ 3)).trans (zupd_s.trans (by simp [xEdge, sA_edge, zA2, zup, zLeft, hk])))) ((zupd_k (by decide : (29 : Nat) ≠ 2)).trans ((zupd_k (by decide : (29 : Nat) ≠ 3)).trans ((zupd_k (by decide : (29 : Nat) ≠ 28)).trans zupd_s))) (by simp [sA_edge, zA2, zup]) ((zupd_k (by decide : (3 : Nat) ≠ 2)).trans (zupd_s.trans (by rw [xRefs_up (zCntL (c := 24) hV.1.1 (by decide) rfl (by assumption)).1 (by have g8 := (zCntL (c := 24) hV.1.1 (by decide) rfl (by assumption)); omega)]))) (zupd_s.trans rfl) (fun k g1 g2 => by unfold sA_edge; rw [zA2_row (by omega), zA2_row (by omega), zA2_row (by omega), zA2_row (by omega), zA2_row (by omega), zA2_row (by omega), zA2_row (by omega), zA2_row (by omega), zA2_row (by omega), zA2_row (by omega), zA2_row (by omega)]) (fun k j g1 => by unfold sA_edge; rw [zA2_col g1, zA2_col g1, zA2_col g1, zA2_col g1, zA2_col g1, zA2_col g1, zA2_col g1, zA2_col g1, zA2_col g1, zA2_col g1, zA2_col g1]) (fun j g => zup_n g)⟩
                  · repeat' split
                    all_goals first | (exfalso; simp only [true_and, and_true, false_and, and_false, true_or, or_true, false_or, or_false, not_true_eq_false, not_false_eq_true, zN, zBw, zUnd, zCor, zi_eq, zi_le, zi_lt, Int32.reduceToInt, List.length_cons, List.length_nil] at *; omega) | exact ⟨zp1 _, zfx (zfx (zfx (zfx (zfx zfx_nil ⟨(by decide : 2 ≤ 28), (by decide : 28 < 40)⟩) ⟨(by decide : 2 ≤ 29), (by decide : 29 < 40)⟩) ⟨(by decide : 2 ≤ 28), (by decide : 28 < 40)⟩) (by decide)) (by decide), hX.newEdge (A' := sA_edge I A k span sh (zLeft k c) lives) (L' := zup L (zN (I 0)) 0) (zCntL (c := 24) hV.1.1 (by decide) rfl (by assumption)).1 (zLt2 (N := 24) (zCntL (c := 24) hV.1.1 (by decide) rfl (by assumption)).2) (fun a g1 g2 g3 g4 => (zupd_n g4).trans ((zupd_n g3).trans ((zupd_n g1).trans ((zupd_n g2).trans (zupd_n g1))))) ((zupd_k (by decide : (28 : Nat) ≠ 2)).trans ((zupd_k (by decide : (28 : Nat) ≠ 3)).trans (zupd_s.trans (by simp [xEdge, sA_edge, zA2, zup, zLeft, hk])))) ((zupd_k (by decide : (29 : Nat) ≠ 2)).trans ((zupd_k (by decide : (29 : Nat) ≠ 3)).trans ((zupd_k (by decide : (29 : Nat) ≠ 28)).trans zupd_s))) (by simp [sA_edge, zA2, zup]) ((zupd_k (by decide : (3 : Nat) ≠ 2)).trans (zupd_s.trans (by rw [xRefs_up (zCntL (c := 24) hV.1.1 (by decide) rfl (by assumption)).1 (by have g8 := (zCntL (c := 24) hV.1.1 (by decide) rfl (by assumption)); omega)]))) (zupd_s.trans rfl) (fun k g1 g2 => by unfold sA_edge; rw [zA2_row (by omega), zA2_row (by omega), zA2_row (by omega), zA2_row (by omega), zA2_row (by omega), zA2_row (by omega), zA2_row (by omega), zA2_row (by omega), zA2_row (by omega), zA2_row (by omega), zA2_row (by omega)]) (fun k j g1 => by unfold sA_edge; rw [zA2_col g1, zA2_col g1, zA2_col g1, zA2_col g1, zA2_col g1, zA2_col g1, zA2_col g1, zA2_col g1, zA2_col g1, zA2_col g1, zA2_col g1]) (fun j g => zup_n g)⟩
                · refine z_il iX10_edge_106 rfl ?_
                  refine z_co iX10_edge_108 ?_
                  refine z_isub iX10_edge_109 ?_
                  refine z_goto iX10_edge_110 ?_
                  refine z_il iX10_edge_114 rfl ?_
                  refine z_ci5vA (cm' := 0) (sm' := 0) (fr' := fr - 1) iX10_edge_116 zmX0_init (c0_init (h := (29, zN (I 0))) (by omega) (by decide : 2 ≤ 28) (by decide : 2 ≤ 29) (by decide : (28 : Nat) ≠ 29) zupd_s ((zupd_k (by decide : (29 : Nat) ≠ 28)).trans nhh) k span sh _ lives) (by omega) (Nat.le_of_ble_eq_true rfl) (fun M1 hq => ?_)
                  subst hq
                  refine z_aast iX10_edge_119 ((zupd_k (Nat.ne_of_beq_eq_false rfl)).trans ((zupd_k (Nat.ne_of_beq_eq_false rfl)).trans ((zupd_k (Nat.ne_of_beq_eq_false rfl)).trans hX.1.2.1))) (by decide) zupd_s rfl (fun _ => rfl) (zCntL (c := 24) hV.1.1 (by decide) rfl (by assumption)).1 (zLt2 (N := 24) (zCntL (c := 24) hV.1.1 (by decide) rfl (by assumption)).2) ?_
                  refine z_al iX10_edge_120 rfl ?_
                  refine z_dup iX10_edge_121 ?_
                  refine z_gf iX10_edge_122 ((zupd_k (Nat.ne_of_beq_eq_false rfl)).trans ((zupd_k (Nat.ne_of_beq_eq_false rfl)).trans ((zupd_k (Nat.ne_of_beq_eq_false rfl)).trans ((zupd_k (Nat.ne_of_beq_eq_false rfl)).trans hX.1.1)))) rfl ?_
                  refine z_co iX10_edge_125 ?_
                  refine z_iadd iX10_edge_126 ?_
                  refine z_pf iX10_edge_127 ((zupd_k (Nat.ne_of_beq_eq_false rfl)).trans ((zupd_k (Nat.ne_of_beq_eq_false rfl)).trans ((zupd_k (Nat.ne_of_beq_eq_false rfl)).trans ((zupd_k (Nat.ne_of_beq_eq_false rfl)).trans hX.1.1)))) (by decide) (Nat.le_of_ble_eq_true rfl) trivial ?_
                  refine z_al iX10_edge_130 rfl ?_
                  refine z_gf iX10_edge_131 zupd_s rfl ?_
                  refine z_co iX10_edge_134 ?_
                  refine z_isub iX10_edge_135 ?_
                  refine z_iret iX10_edge_136 rfl ?_
                  have hv1 := hV.1.1
                  unfold zRg at hv1
                  refine ⟨_, rfl, ?_⟩
                  unfold sp_edge
                  by_cases hk : zCor k
                  · repeat' split
                    all_goals first | (exfalso; simp only [true_and, and_true, false_and, and_false, true_or, or_true, false_or, or_false, not_true_eq_false, not_false_eq_true, zN, zBw, zUnd, zCor, zi_eq, zi_le, zi_lt, Int32.reduceToInt, List.length_cons, List.length_nil] at *; omega) | exact ⟨zp1 _, zfx (zfx (zfx (zfx (zfx zfx_nil ⟨(by decide : 2 ≤ 28), (by decide : 28 < 40)⟩) ⟨(by decide : 2 ≤ 29), (by decide : 29 < 40)⟩) ⟨(by decide : 2 ≤ 28), (by decide : 28 < 40)⟩) (by decide)) (by decide), hX.newEdge (A' := sA_edge I A k span sh (zLeft k c) lives) (L' := zup L (zN (I 0)) 0) (zCntL (c := 24) hV.1.1 (by decide) rfl (by assumption)).1 (zLt2 (N := 24) (zCntL (c := 24) hV.1.1 (by decide) rfl (by assumption)).2) (fun a g1 g2 g3 g4 => (zupd_n g4).trans ((zupd_n g3).trans ((zupd_n g1).trans ((zupd_n g2).trans (zupd_n g1))))) ((zupd_k (by decide : (28 : Nat) ≠ 2)).trans ((zupd_k (by decide : (28 : Nat) ≠ 3)).trans (zupd_s.trans (by simp [xEdge, sA_edge, zA2, zup, zLeft, hk])))) ((zupd_k (by decide : (29 : Nat) ≠ 2)).trans ((zupd_k (by decide : (29 : Nat) ≠ 3)).trans ((zupd_k (by decide : (29 : Nat) ≠ 28)).trans zupd_s))) (by simp [sA_edge, zA2, zup]) ((zupd_k (by decide : (3 : Nat) ≠ 2)).trans (zupd_s.trans (by rw [xRefs_up (zCntL (c := 24) hV.1.1 (by decide) rfl (by assumption)).1 (by have g8 := (zCntL (c := 24) hV.1.1 (by decide) rfl (by assumption)); omega)]))) (zupd_s.trans rfl) (fun k g1 g2 => by unfold sA_edge; rw [zA2_row (by omega), zA2_row (by omega), zA2_row (by omega), zA2_row (by omega), zA2_row (by omega), zA2_row (by omega), zA2_row (by omega), zA2_row (by omega), zA2_row (by omega), zA2_row (by omega), zA2_row (by omega)]) (fun k j g1 => by unfold sA_edge; rw [zA2_col g1, zA2_col g1, zA2_col g1, zA2_col g1, zA2_col g1, zA2_col g1, zA2_col g1, zA2_col g1, zA2_col g1, zA2_col g1, zA2_col g1]) (fun j g => zup_n g)⟩
                  · repeat' split
                    all_goals first | (exfalso; simp only [true_and, and_true, false_and, and_false, true_or, or_true, false_or, or_false, not_true_eq_false, not_false_eq_true, zN, zBw, zUnd, zCor, zi_eq, zi_le, zi_lt, Int32.reduceToInt, List.length_cons, List.length_nil] at *; omega) | exact ⟨zp1 _, zfx (zfx (zfx (zfx (zfx zfx_nil ⟨(by decide : 2 ≤ 28), (by decide : 28 < 40)⟩) ⟨(by decide : 2 ≤ 29), (by decide : 29 < 40)⟩) ⟨(by decide : 2 ≤ 28), (by decide : 28 < 40)⟩) (by decide)) (by decide), hX.newEdge (A' := sA_edge I A k span sh (zLeft k c) lives) (L' := zup L (zN (I 0)) 0) (zCntL (c := 24) hV.1.1 (by decide) rfl (by assumption)).1 (zLt2 (N := 24) (zCntL (c := 24) hV.1.1 (by decide) rfl (by assumption)).2) (fun a g1 g2 g3 g4 => (zupd_n g4).trans ((zupd_n g3).trans ((zupd_n g1).trans ((zupd_n g2).trans (zupd_n g1))))) ((zupd_k (by decide : (28 : Nat) ≠ 2)).trans ((zupd_k (by decide : (28 : Nat) ≠ 3)).trans (zupd_s.trans (by simp [xEdge, sA_edge, zA2, zup, zLeft, hk])))) ((zupd_k (by decide : (29 : Nat) ≠ 2)).trans ((zupd_k (by decide : (29 : Nat) ≠ 3)).trans ((zupd_k (by decide : (29 : Nat) ≠ 28)).trans zupd_s))) (by simp [sA_edge, zA2, zup]) ((zupd_k (by decide : (3 : Nat) ≠ 2)).trans (zupd_s.trans (by rw [xRefs_up (zCntL (c := 24) hV.1.1 (by decide) rfl (by assumption)).1 (by have g8 := (zCntL (c := 24) hV.1.1 (by decide) rfl (by assumption)); omega)]))) (zupd_s.trans rfl) (fun k g1 g2 => by unfold sA_edge; rw [zA2_row (by omega), zA2_row (by omega), zA2_row (by omega), zA2_row (by omega), zA2_row (by omega), zA2_row (by omega), zA2_row (by omega), zA2_row (by omega), zA2_row (by omega), zA2_row (by omega), zA2_row (by omega)]) (fun k j g1 => by unfold sA_edge; rw [zA2_col g1, zA2_col g1, zA2_col g1, zA2_col g1, zA2_col g1, zA2_col g1, zA2_col g1, zA2_col g1, zA2_col g1, zA2_col g1, zA2_col g1]) (fun j g => zup_n g)⟩
              · refine z_co iX10_edge_83 ?_
                refine z_iret iX10_edge_85 rfl ?_
                have hv1 := hV.1.1
                unfold zRg at hv1
                refine ⟨_, rfl, ?_⟩
                unfold sp_edge
                repeat' split
                all_goals first | exact zEX.rd hX | (exfalso; simp only [true_and, and_true, false_and, and_false, true_or, or_true, false_or, or_false, not_true_eq_false, not_false_eq_true, zN, zBw, zUnd, zCor, zi_eq, zi_le, zi_lt, Int32.reduceToInt, List.length_cons, List.length_nil] at *; omega)
            · refine z_co iX10_edge_71 ?_
              refine z_iret iX10_edge_73 rfl ?_
              have hv1 := hV.1.1
              unfold zRg at hv1
              refine ⟨_, rfl, ?_⟩
              unfold sp_edge
              repeat' split
              all_goals first | exact zEX.rd hX | (exfalso; simp only [true_and, and_true, false_and, and_false, true_or, or_true, false_or, or_false, not_true_eq_false, not_false_eq_true, zN, zBw, zUnd, zCor, zi_eq, zi_le, zi_lt, Int32.reduceToInt, List.length_cons, List.length_nil] at *; omega)
          · refine z_co iX10_edge_56 ?_
            refine z_iret iX10_edge_58 rfl ?_
            have hv1 := hV.1.1
            unfold zRg at hv1
            refine ⟨_, rfl, ?_⟩
            unfold sp_edge
            repeat' split
            all_goals first | exact zEX.rd hX | (exfalso; simp only [true_and, and_true, false_and, and_false, true_or, or_true, false_or, or_false, not_true_eq_false, not_false_eq_true, zN, zBw, zUnd, zCor, zi_eq, zi_le, zi_lt, Int32.reduceToInt, List.length_cons, List.length_nil] at *; omega)
      · refine z_co iX10_edge_30 ?_
        refine z_iret iX10_edge_32 rfl ?_
        have hv1 := hV.1.1
        unfold zRg at hv1
        refine ⟨_, rfl, ?_⟩
        unfold sp_edge
        repeat' split
        all_goals first | exact zEX.rd hX | (exfalso; simp only [true_and, and_true, false_and, and_false, true_or, or_true, false_or, or_false, not_true_eq_false, not_false_eq_true, zN, zBw, zUnd, zCor, zi_eq, zi_le, zi_lt, Int32.reduceToInt, List.length_cons, List.length_nil] at *; omega)
