theorem xRefs_up {k : Nat} {n : Int32} {m : Nat} (h : n.toInt = (m : Int)) (hb : m < 1000) : zup (xRefs k n) m (some (k, m)) = xRefs k (n + 1) := by
  funext e
  have e1 : (n + 1).toInt = n.toInt + 1 := by rw [zadd (by simp only [Int32.reduceToInt]; omega) (by simp only [Int32.reduceToInt]; omega)]; rfl
  unfold zup xRefs
  rw [e1, h]
  by_cases q : e = m
  · rw [if_pos q, if_pos (by omega), q]
  · rw [if_neg q]
    by_cases q2 : (e : Int) < m
    · rw [if_pos q2, if_pos (by omega)]
    · rw [if_neg q2, if_neg (by omega)]
theorem zneK {a b : zAd} (h : a.1 ≠ b.1) : a ≠ b := fun q => h (congrArg Prod.fst q)
theorem zneI {a b : zAd} (h : a.2 ≠ b.2) : a ≠ b := fun q => h (congrArg Prod.snd q)
theorem RepX.mach {TR : zTR} {JR : zJR} {M M' : zM} {I : zSI} {A A' : zSA} {L : zSL} (h : RepX TR JR M I A L) {m : Nat} (hm : (I 8).toInt = (m : Int)) (hm3 : m < 3)
    (h0 : ∀ a : zAd, a ≠ (31, m) → a ≠ (32, m) → a ≠ (5, 0) → a ≠ (2, 0) → M' a = M a) (h31 : M' (31, m) = some (.inr (2, xMach A' m))) {g : Nat → Int32} (h32 : M' (32, m) = some (.inl (0, 16, .inl g))) (hg : ∀ j, j < 16 → g j = A' 24 (16 * m + j))
    (h5 : M' (5, 0) = some (.inl (6, 3, .inr (.inr (xRefs 31 (I 8 + 1)))))) (h2 : M' (2, 0) = some (.inr (10, xObj (zup I 8 (I 8 + 1)))))
    (hA : ∀ k, k < 30 → k ≠ 22 → k ≠ 23 → A' k = A k) (hj : ∀ k j, j ≠ m → A' k j = A k j) : RepX TR JR M' (zup I 8 (I 8 + 1)) A' L := by
  obtain ⟨k1, k2, k3, k4, k5, k6, k7, k8, k9⟩ := h
  have e1 : (I 8 + 1).toInt = (I 8).toInt + 1 := by rw [zadd (by simp only [Int32.reduceToInt]; omega) (by simp only [Int32.reduceToInt]; omega)]; rfl
  have K : ∀ k e, k ≠ 31 → k ≠ 32 → k ≠ 5 → k ≠ 2 → M' (k, e) = M (k, e) := fun k e a b c d => h0 _ (zneK a) (zneK b) (zneK c) (zneK d)
  have q := fun k h1 h2 h3 => (hA k h1 h2 h3).symm
  have q0 := q 0 (by decide) (by decide) (by decide); have q1 := q 1 (by decide) (by decide) (by decide); have q2 := q 2 (by decide) (by decide) (by decide); have q3 := q 3 (by decide) (by decide) (by decide); have q4 := q 4 (by decide) (by decide) (by decide); have q5 := q 5 (by decide) (by decide) (by decide); have q6 := q 6 (by decide) (by decide) (by decide); have q7 := q 7 (by decide) (by decide) (by decide); have q8 := q 8 (by decide) (by decide) (by decide); have q9 := q 9 (by decide) (by decide) (by decide); have q10 := q 10 (by decide) (by decide) (by decide); have q11 := q 11 (by decide) (by decide) (by decide)
  have q12 := q 12 (by decide) (by decide) (by decide); have q13 := q 13 (by decide) (by decide) (by decide); have q14 := q 14 (by decide) (by decide) (by decide); have q15 := q 15 (by decide) (by decide) (by decide); have q16 := q 16 (by decide) (by decide) (by decide); have q17 := q 17 (by decide) (by decide) (by decide); have q18 := q 18 (by decide) (by decide) (by decide); have q19 := q 19 (by decide) (by decide) (by decide); have q20 := q 20 (by decide) (by decide) (by decide); have q21 := q 21 (by decide) (by decide) (by decide); have q24 := q 24 (by decide) (by decide) (by decide); have q25 := q 25 (by decide) (by decide) (by decide); have q26 := q 26 (by decide) (by decide) (by decide); have q27 := q 27 (by decide) (by decide) (by decide); have q28 := q 28 (by decide) (by decide) (by decide); have q29 := q 29 (by decide) (by decide) (by decide)
  refine ⟨⟨h2, (K 3 0 (by decide) (by decide) (by decide) (by decide)).trans k1.2.1, (K 4 0 (by decide) (by decide) (by decide) (by decide)).trans k1.2.2.1, h5, (K 6 0 (by decide) (by decide) (by decide) (by decide)).trans k1.2.2.2.2.1, (K 7 0 (by decide) (by decide) (by decide) (by decide)).trans k1.2.2.2.2.2.1, (K 8 0 (by decide) (by decide) (by decide) (by decide)).trans k1.2.2.2.2.2.2⟩, ?_, ?_, ⟨fun m' hm' => ?_, fun m' hm' => ?_⟩, ?_, ?_, ?_, k8.fr (K _ _ (by decide) (by decide) (by decide) (by decide)) (K _ _ (by decide) (by decide) (by decide) (by decide)) (K _ _ (by decide) (by decide) (by decide) (by decide)) (K _ _ (by decide) (by decide) (by decide) (by decide)), ?_⟩
  · simp only [xEd, xEdge, q0, q1, q2, q3, q4, q5, q6, q7, q8, q9, q10, q11] at k2
    exact xEd.fr (I := zup I 8 (I 8 + 1)) (A := A') k2 (fun e => K 28 e (by decide) (by decide) (by decide) (by decide)) (fun e => K 29 e (by decide) (by decide) (by decide) (by decide))
  · simp only [xTo, xTool, q12, q13, q14, q15, q16, q17, q18] at k3
    exact xTo.fr (I := zup I 8 (I 8 + 1)) (A := A') k3 (fun e => K 30 e (by decide) (by decide) (by decide) (by decide))
  · have hm'' : (m' : Int) < (I 8 + 1).toInt := hm'
    by_cases z : m' = m
    · subst z
      exact ⟨h31, g, h32, hg⟩
    · obtain ⟨g1, f, g2, g3⟩ := k4.1 m' (by omega)
      refine ⟨?_, f, (h0 _ (zneK (by decide : (32 : Nat) ≠ 31)) (zneI z) (zneK (by decide : (32 : Nat) ≠ 5)) (zneK (by decide : (32 : Nat) ≠ 2))).trans g2, by rw [← q24]; exact g3⟩
      rw [h0 _ (zneI z) (zneK (by decide : (31 : Nat) ≠ 32)) (zneK (by decide : (31 : Nat) ≠ 5)) (zneK (by decide : (31 : Nat) ≠ 2)), g1]
      unfold xMach
      rw [hj 22 m' z, hj 23 m' z]
  · have hm'' : (I 8 + 1).toInt ≤ (m' : Int) := hm'
    obtain ⟨g1, g2⟩ := k4.2 m' (by omega)
    have z : m' ≠ m := by omega
    exact ⟨(h0 _ (zneI z) (zneK (by decide : (31 : Nat) ≠ 32)) (zneK (by decide : (31 : Nat) ≠ 5)) (zneK (by decide : (31 : Nat) ≠ 2))).trans g1, (h0 _ (zneK (by decide : (32 : Nat) ≠ 31)) (zneI z) (zneK (by decide : (32 : Nat) ≠ 5)) (zneK (by decide : (32 : Nat) ≠ 2))).trans g2⟩
  · simp only [xSh, q26, q27, q28, q29] at k5
    exact xSh.fr (A := A') k5 (fun e => K 26 e (by decide) (by decide) (by decide) (by decide)) (fun e => K 27 e (by decide) (by decide) (by decide) (by decide))
  · simp only [xTx, q19, q20] at k6
    exact xTx.fr (I := zup I 8 (I 8 + 1)) (A := A') k6 (fun e => K 23 e (by decide) (by decide) (by decide) (by decide)) (fun e => K 24 e (by decide) (by decide) (by decide) (by decide)) (fun e => K 25 e (by decide) (by decide) (by decide) (by decide))
  · simp only [xTa, q21] at k7
    exact xTa.fr (I := zup I 8 (I 8 + 1)) (A := A') k7 (K _ _ (by decide) (by decide) (by decide) (by decide)) (K _ _ (by decide) (by decide) (by decide) (by decide)) (K _ _ (by decide) (by decide) (by decide) (by decide)) (K _ _ (by decide) (by decide) (by decide) (by decide))
  · simp only [xJo, q25] at k9
    exact xJo.fr (I := zup I 8 (I 8 + 1)) (A := A') k9 (K _ _ (by decide) (by decide) (by decide) (by decide)) (K _ _ (by decide) (by decide) (by decide) (by decide)) (K _ _ (by decide) (by decide) (by decide) (by decide)) (K _ _ (by decide) (by decide) (by decide) (by decide)) (K _ _ (by decide) (by decide) (by decide) (by decide)) (fun e => K 18 e (by decide) (by decide) (by decide) (by decide))
theorem zCntL {n : Int32} {N : Int} {c : Int32} (h : zRg n 0 N) (hN : N ≤ 1000) (hc : c.toInt = N) (hn : n < c) : n.toInt = (zN n : Int) ∧ (zN n : Int) < N := by
  obtain ⟨h1, h2⟩ := h
  have h3 := zi_lt.mp hn
  have e0 : zN n = n.toInt.toNat := rfl
  omega
set_option maxRecDepth 20000 in
set_option maxHeartbeats 4000000 in
theorem px_machine {TR : zTR} {JR : zJR} {fr : Nat} {M : zM} {I : zSI} {A : zSA} {L : zSL} (hf : 4 ≤ fr) (hX : RepX TR JR M I A L) (hV : Val I A L) (s : Int32) (n : Int32) : zCi zX10_machine fr 2 19 [zr (2, 0), zi s, zi n] M (fun x M' => zEX TR JR M x (sp_machine I A L s n) M') := by
  refine z_enter (L := [some (zr (2, 0)), some (zi s), some (zi n)]) rfl (by decide +kernel) (Nat.le_of_ble_eq_true rfl) ?_
  have nq : (I 8).toInt ≤ (zN (I 8) : Int) := by
    have e0 : zN (I 8) = (I 8).toInt.toNat := rfl
    omega
  have nmach : M (31, zN (I 8)) = none := (hX.2.2.2.1.2 _ nq).1
  have nhh : M (32, zN (I 8)) = none := (hX.2.2.2.1.2 _ nq).2
  refine z_il iX10_machine_0 rfl ?_
  refine z_co iX10_machine_1 ?_
  refine z_co iX10_machine_2 ?_
  refine z_cs3i (fr' := fr - 1) iX10_machine_4 zmX10_within (c10_within _ _ _) (by omega) (Nat.le_of_ble_eq_true rfl) (fun x M1 hq => ?_)
  obtain ⟨rfl, rfl⟩ := hq
  refine z_ib_eq iX10_machine_7 (fun h1 => ?_) (fun h1 => ?_)
  · refine z_co iX10_machine_20 ?_
    refine z_iret iX10_machine_22 rfl ?_
    have hv1 := hV.1.2.2.2.2.2.1
    unfold zRg at hv1
    refine ⟨_, rfl, ?_⟩
    unfold sp_machine
    repeat' split
    all_goals first | exact zEX.rd hX | (exfalso; simp only [true_and, and_true, false_and, and_false, true_or, or_true, false_or, or_false, not_true_eq_false, not_false_eq_true, zN, zBw, zUnd, zCor, zi_eq, zi_le, zi_lt, Int32.reduceToInt, List.length_cons, List.length_nil] at *; omega)
  · refine z_il iX10_machine_10 rfl ?_
    refine z_co iX10_machine_11 ?_
    refine z_co iX10_machine_12 ?_
    refine z_cs3i (fr' := fr - 1) iX10_machine_14 zmX10_within (c10_within _ _ _) (by omega) (Nat.le_of_ble_eq_true rfl) (fun x M1 hq => ?_)
    obtain ⟨rfl, rfl⟩ := hq
    refine z_ib_ne iX10_machine_17 (fun h2 => ?_) (fun h2 => ?_)
    · refine z_al iX10_machine_23 rfl ?_
      refine z_gf iX10_machine_24 hX.1.1 rfl ?_
      refine z_co iX10_machine_27 ?_
      refine z_icmp_lt iX10_machine_28 (fun h3 => ?_) (fun h3 => ?_)
      · refine z_al iX10_machine_34 rfl ?_
        refine z_gf iX10_machine_35 hX.1.1 rfl ?_
        refine z_al iX10_machine_38 rfl ?_
        refine z_gf iX10_machine_39 hX.1.1 rfl ?_
        refine z_new (a := (31, zN (I 8))) iX10_machine_42 zfs_2 rfl nmach (by decide : 2 ≤ 31) ?_
        refine z_dup iX10_machine_45 ?_
        refine z_il iX10_machine_46 rfl ?_
        refine z_il iX10_machine_47 rfl ?_
        refine z_ci2vA (cm' := 0) (sm' := 0) (fr' := fr - 1) iX10_machine_48 zmX2_init (c2_init (h := (32, zN (I 8))) (by omega) (by decide : 2 ≤ 31) (by decide : 2 ≤ 32) (by decide : (31 : Nat) ≠ 32) (by decide : (32 : Nat) ≠ 31) zupd_s ((zupd_k (by decide : (32 : Nat) ≠ 31)).trans nhh) s n) (by omega) (Nat.le_of_ble_eq_true rfl) (fun M1 hq => ?_)
        obtain ⟨g, hg, rfl⟩ := hq
        refine z_aast iX10_machine_51 ((zupd_k (Nat.ne_of_beq_eq_false rfl)).trans ((zupd_k (Nat.ne_of_beq_eq_false rfl)).trans ((zupd_k (Nat.ne_of_beq_eq_false rfl)).trans ((zupd_k (Nat.ne_of_beq_eq_false rfl)).trans hX.1.2.2.2.1)))) (by decide) ((zupd_k (Nat.ne_of_beq_eq_false rfl)).trans zupd_s) rfl (fun _ => rfl) (zCntL hV.1.2.2.2.2.2.1 (by decide) rfl h3).1 (zLt2 (N := 3) (zCntL hV.1.2.2.2.2.2.1 (by decide) rfl h3).2) ?_
        refine z_al iX10_machine_52 rfl ?_
        refine z_dup iX10_machine_53 ?_
        refine z_gf iX10_machine_54 ((zupd_k (Nat.ne_of_beq_eq_false rfl)).trans ((zupd_k (Nat.ne_of_beq_eq_false rfl)).trans ((zupd_k (Nat.ne_of_beq_eq_false rfl)).trans ((zupd_k (Nat.ne_of_beq_eq_false rfl)).trans ((zupd_k (Nat.ne_of_beq_eq_false rfl)).trans hX.1.1))))) rfl ?_
        refine z_co iX10_machine_57 ?_
        refine z_iadd iX10_machine_58 ?_
        refine z_pf iX10_machine_59 ((zupd_k (Nat.ne_of_beq_eq_false rfl)).trans ((zupd_k (Nat.ne_of_beq_eq_false rfl)).trans ((zupd_k (Nat.ne_of_beq_eq_false rfl)).trans ((zupd_k (Nat.ne_of_beq_eq_false rfl)).trans ((zupd_k (Nat.ne_of_beq_eq_false rfl)).trans hX.1.1))))) (by decide) (Nat.le_of_ble_eq_true rfl) trivial ?_
        refine z_al iX10_machine_62 rfl ?_
        refine z_gf iX10_machine_63 zupd_s rfl ?_
        refine z_co iX10_machine_66 ?_
        refine z_isub iX10_machine_67 ?_
        refine z_iret iX10_machine_68 rfl ?_
        refine ⟨_, rfl, ?_⟩
        unfold sp_machine
        rw [if_neg (fun g => g.elim (fun z => z h1) (fun z => z h2)), if_neg (fun g => by have := zi_lt.mp h3; rw [g] at this; exact absurd this (by decide))]
        exact ⟨zp1 _, zfx (zfx (zfx (zfx (zfx (zfx zfx_nil ⟨(by decide : 2 ≤ 31), (by decide : 31 < 40)⟩) ⟨(by decide : 2 ≤ 32), (by decide : 32 < 40)⟩) ⟨(by decide : 2 ≤ 31), (by decide : 31 < 40)⟩) ⟨(by decide : 2 ≤ 32), (by decide : 32 < 40)⟩) (by decide)) (by decide), hX.mach (A' := zA2 (zA2 A 22 (zN (I 8)) s) 23 (zN (I 8)) n) (zCntL hV.1.2.2.2.2.2.1 (by decide) rfl h3).1 (zLt2 (N := 3) (zCntL hV.1.2.2.2.2.2.1 (by decide) rfl h3).2) (fun a g1 g2 g3 g4 => (zupd_n g4).trans ((zupd_n g3).trans ((zupd_n g2).trans ((zupd_n g1).trans ((zupd_n g2).trans (zupd_n g1)))))) ((zupd_k (by decide : (31 : Nat) ≠ 2)).trans ((zupd_k (by decide : (31 : Nat) ≠ 5)).trans ((zupd_k (by decide : (31 : Nat) ≠ 32)).trans (zupd_s.trans (by simp [xMach, zA2, zup]))))) ((zupd_k (by decide : (32 : Nat) ≠ 2)).trans ((zupd_k (by decide : (32 : Nat) ≠ 5)).trans zupd_s)) (fun j g1 => (hg j g1).trans (Eq.symm (by rw [zA2_row (by decide), zA2_row (by decide)]; have g8 := (zCntL hV.1.2.2.2.2.2.1 (by decide) rfl h3); exact hV.2.2.2.2.2.2.2 _ (by omega) (by omega)))) ((zupd_k (by decide : (5 : Nat) ≠ 2)).trans (zupd_s.trans (by rw [xRefs_up (zCntL hV.1.2.2.2.2.2.1 (by decide) rfl h3).1 (by have g8 := (zCntL hV.1.2.2.2.2.2.1 (by decide) rfl h3); omega)]))) (zupd_s.trans rfl) (fun k g1 g2 g3 => by rw [zA2_row g3, zA2_row g2]) (fun k j g1 => by rw [zA2_col g1, zA2_col g1])⟩
      · refine z_co iX10_machine_31 ?_
        refine z_iret iX10_machine_33 rfl ?_
        have hv1 := hV.1.2.2.2.2.2.1
        unfold zRg at hv1
        refine ⟨_, rfl, ?_⟩
        unfold sp_machine
        repeat' split
        all_goals first | exact zEX.rd hX | (exfalso; simp only [true_and, and_true, false_and, and_false, true_or, or_true, false_or, or_false, not_true_eq_false, not_false_eq_true, zN, zBw, zUnd, zCor, zi_eq, zi_le, zi_lt, Int32.reduceToInt, List.length_cons, List.length_nil] at *; omega)
    · refine z_co iX10_machine_20 ?_
      refine z_iret iX10_machine_22 rfl ?_
      have hv1 := hV.1.2.2.2.2.2.1
      unfold zRg at hv1
      refine ⟨_, rfl, ?_⟩
      unfold sp_machine
      repeat' split
      all_goals first | exact zEX.rd hX | (exfalso; simp only [true_and, and_true, false_and, and_false, true_or, or_true, false_or, or_false, not_true_eq_false, not_false_eq_true, zN, zBw, zUnd, zCor, zi_eq, zi_le, zi_lt, Int32.reduceToInt, List.length_cons, List.length_nil] at *; omega)
