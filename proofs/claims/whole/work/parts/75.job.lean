/-- the jobs' cells are written anew -/
theorem RepX.jobs {TR : zTR} {JR : zJR} {M M' : zM} {I I' : zSI} {A A' : zSA} {L : zSL} (h : RepX TR JR M I A L) (hf : ∀ a : zAd, a.1 ≠ 9 → a.1 ≠ 14 → a.1 ≠ 15 → a.1 ≠ 16 → a.1 ≠ 18 → M' a = M a) (h9' : xJo JR M' I' A') (hI : ∀ k, k ≠ 9 → I' k = I k) (hA : ∀ k, k < 30 → k ≠ 25 → A' k = A k) : RepX TR JR M' I' A' L := by
  obtain ⟨h1, h2, h3, h4, h5, h6, h7, h8, h9⟩ := h
  have K : ∀ k i, k ≠ 9 → k ≠ 14 → k ≠ 15 → k ≠ 16 → k ≠ 18 → M' (k, i) = M (k, i) := fun k i a b c d e => hf _ a b c d e
  have q := fun k h1 h2 => (hA k h1 h2).symm
  have i0 := (hI 0 (by decide)).symm; have i1 := (hI 1 (by decide)).symm; have i2 := (hI 2 (by decide)).symm; have i3 := (hI 3 (by decide)).symm; have i4 := (hI 4 (by decide)).symm; have i5 := (hI 5 (by decide)).symm; have i6 := (hI 6 (by decide)).symm; have i7 := (hI 7 (by decide)).symm; have i8 := (hI 8 (by decide)).symm
  have q0 := q 0 (by decide) (by decide); have q1 := q 1 (by decide) (by decide); have q2 := q 2 (by decide) (by decide); have q3 := q 3 (by decide) (by decide); have q4 := q 4 (by decide) (by decide); have q5 := q 5 (by decide) (by decide); have q6 := q 6 (by decide) (by decide); have q7 := q 7 (by decide) (by decide); have q8 := q 8 (by decide) (by decide); have q9 := q 9 (by decide) (by decide); have q10 := q 10 (by decide) (by decide); have q11 := q 11 (by decide) (by decide); have q12 := q 12 (by decide) (by decide); have q13 := q 13 (by decide) (by decide); have q14 := q 14 (by decide) (by decide); have q15 := q 15 (by decide) (by decide); have q16 := q 16 (by decide) (by decide); have q17 := q 17 (by decide) (by decide); have q18 := q 18 (by decide) (by decide); have q19 := q 19 (by decide) (by decide); have q20 := q 20 (by decide) (by decide); have q21 := q 21 (by decide) (by decide); have q22 := q 22 (by decide) (by decide); have q23 := q 23 (by decide) (by decide); have q24 := q 24 (by decide) (by decide); have q26 := q 26 (by decide) (by decide); have q27 := q 27 (by decide) (by decide); have q28 := q 28 (by decide) (by decide); have q29 := q 29 (by decide) (by decide)
  simp only [xCore, xObj, i0, i1, i2, i3, i4, i5, i6, i8] at h1
  simp only [xEd, xEdge, i0, q0, q1, q2, q3, q4, q5, q6, q7, q8, q9, q10, q11] at h2
  simp only [xTo, xTool, i1, q12, q13, q14, q15, q16, q17, q18] at h3
  simp only [xMa, xMach, i8, q22, q23, q24] at h4
  simp only [xSh, q26, q27, q28, q29] at h5
  simp only [xTx, i5, q19, q20] at h6
  simp only [xTa, i7, q21] at h7
  exact ⟨xCore.fr (I := I') h1 fun k g1 g2 => K k 0 (by omega) (by omega) (by omega) (by omega) (by omega), xEd.fr (I := I') (A := A') h2 (fun e => K _ _ (by decide) (by decide) (by decide) (by decide) (by decide)) (fun e => K _ _ (by decide) (by decide) (by decide) (by decide) (by decide)), xTo.fr (I := I') (A := A') h3 (fun e => K _ _ (by decide) (by decide) (by decide) (by decide) (by decide)), xMa.fr (I := I') (A := A') h4 (fun e => K _ _ (by decide) (by decide) (by decide) (by decide) (by decide)) (fun e => K _ _ (by decide) (by decide) (by decide) (by decide) (by decide)), xSh.fr (A := A') h5 (fun e => K _ _ (by decide) (by decide) (by decide) (by decide) (by decide)) (fun e => K _ _ (by decide) (by decide) (by decide) (by decide) (by decide)), xTx.fr (I := I') (A := A') h6 (fun e => K _ _ (by decide) (by decide) (by decide) (by decide) (by decide)) (fun e => K _ _ (by decide) (by decide) (by decide) (by decide) (by decide)) (fun e => K _ _ (by decide) (by decide) (by decide) (by decide) (by decide)), xTa.fr (I := I') (A := A') h7 (K _ _ (by decide) (by decide) (by decide) (by decide) (by decide)) (K _ _ (by decide) (by decide) (by decide) (by decide) (by decide)) (K _ _ (by decide) (by decide) (by decide) (by decide) (by decide)) (K _ _ (by decide) (by decide) (by decide) (by decide) (by decide)), h8.fr (K _ _ (by decide) (by decide) (by decide) (by decide) (by decide)) (K _ _ (by decide) (by decide) (by decide) (by decide) (by decide)) (K _ _ (by decide) (by decide) (by decide) (by decide) (by decide)) (K _ _ (by decide) (by decide) (by decide) (by decide) (by decide)), h9'⟩
/-- nothing is known of the fewest -/
def fgt (f : Nat → Int32) (i : Nat) : Nat → Int32 := fun r => if r < i then -2 else f r
theorem fgt_1 {f : Nat → Int32} {i : Nat} : zup (fgt f i) i (-2) = fgt f (i + 1) := by
  funext j
  unfold zup fgt
  by_cases z : j = i
  · rw [if_pos z, if_pos (by omega)]
  · rw [if_neg z]
    by_cases z2 : j < i
    · rw [if_pos z2, if_pos (by omega)]
    · rw [if_neg z2, if_neg (by omega)]
theorem fgt_0 {f : Nat → Int32} : fgt f 0 = f := funext fun j => if_neg (by omega)
def sp_job (I : zSI) (A : zSA) (L : zSL) (w : Int32) : zRes := if ¬ zBw w 1 1023 ∨ 5 < zPop (zN w) then (-2, I, A, L) else if I 9 = 6 then (-4, I, A, L) else (I 9, zup I 9 (I 9 + 1), zA2 A 25 (zN (I 9)) w, L)
theorem zW10 {w : Int32} (h : zBw w 1 1023) : w = nI (zN w) ∧ zN w < 1024 ∧ zPop (zN w) ≤ 10 := by
  obtain ⟨h1, h2⟩ := h
  have e0 : zN w = w.toInt.toNat := rfl
  rw [zi_le] at h1 h2
  simp only [Int32.reduceToInt] at h1 h2
  have hl : zN w < 1024 := by omega
  refine ⟨?_, hl, (zPop_f _ hl).1⟩
  rw [← Int32.toInt_inj, nI_toInt (by omega)]
  omega
theorem zI9 {I : zSI} {A : zSA} {L : zSL} (hV : Val I A L) : (I 9).toInt = (zN (I 9) : Int) ∧ zN (I 9) ≤ 6 := by
  obtain ⟨z1, z2⟩ := hV.1.2.2.2.2.2.2
  have e0 : zN (I 9) = (I 9).toInt.toNat := rfl
  omega
set_option maxRecDepth 20000 in
set_option maxHeartbeats 4000000 in
theorem l1_forget {fr : Nat} {M : zM} {c : Int32} {fw : Nat → Int32} (hjobs : M (9, 0) = some (.inr (1, [zi c, zr (14, 0), zr (15, 0), zr (16, 0), zr (17, 0)]))) (hfw : M (16, 0) = some (.inl (0, 10, .inl fw)))  : ∀ (n i : Nat), i + n = 10 → zV zX1_forget fr 0 0 2 (zL [some (zr (9, 0)), some (zi (nI i))]) [] (zupd M (16, 0) (.inl (0, 10, .inl (fgt fw i)))) (fun r M' => r = none ∧ M' = zupd M (16, 0) (.inl (0, 10, .inl (fgt fw 10)))) := by
  intro n
  induction n with
  | zero =>
    intro i  hn 
    refine z_il iX1_forget_2 rfl ?_
    refine z_co iX1_forget_3 ?_
    refine z_icmp_gt iX1_forget_5 (fun h1 => ?_) (fun h1 => ?_)
    · refine z_vret iX1_forget_22 rfl ?_
      exact ⟨rfl, by rw [show i = 10 by omega]⟩
    · exfalso
      have e1 := nI_toInt (n := i) (by omega)
      simp only [zi_lt, Int32.reduceToInt, e1] at h1
      omega
  | succ n ih =>
    intro i  hn 
    refine z_il iX1_forget_2 rfl ?_
    refine z_co iX1_forget_3 ?_
    refine z_icmp_gt iX1_forget_5 (fun h1 => ?_) (fun h1 => ?_)
    · exfalso
      have e1 := nI_toInt (n := i) (by omega)
      simp only [zi_lt, Int32.reduceToInt, e1] at h1
      omega
    · refine z_al iX1_forget_8 rfl ?_
      refine z_gf iX1_forget_9 ((zupd_k (Nat.ne_of_beq_eq_false rfl)).trans hjobs) rfl ?_
      refine z_il iX1_forget_12 rfl ?_
      refine z_co iX1_forget_13 ?_
      refine z_iast2 iX1_forget_15 (show 2 ≤ 16 by decide) (nI_toInt (by omega)) (show i < 10 by omega) ?_
      refine z_in iX1_forget_16 rfl ?_
      refine z_goto iX1_forget_19 ?_
      rw [fgt_1]
      refine z_loc [some (zr (9, 0)), some (zi (nI (i + 1)))] ⟨rfl, ?_, trivial⟩ (ih (i + 1) (by omega))
      show some (zi (nI i + 1)) = _
      rw [nI_1]
set_option maxRecDepth 20000 in
set_option maxHeartbeats 4000000 in
theorem c1_forget {fr : Nat} {M : zM} {c : Int32} {fw : Nat → Int32} (hjobs : M (9, 0) = some (.inr (1, [zi c, zr (14, 0), zr (15, 0), zr (16, 0), zr (17, 0)]))) (hfw : M (16, 0) = some (.inl (0, 10, .inl fw))) : zCv zX1_forget fr 0 0 [zr (9, 0)] M (fun M' => M' = zupd M (16, 0) (.inl (0, 10, .inl (fgt fw 10)))) := by
  refine z_enter (L := [some (zr (9, 0))]) rfl (by decide +kernel) (Nat.le_of_ble_eq_true rfl) ?_
  refine z_co iX1_forget_0 ?_
  refine z_is iX1_forget_1 ?_
  refine z_loc [some (zr (9, 0)), some (zi (nI 0))] ⟨rfl, rfl, trivial⟩ ?_
  have h9 := l1_forget (fr := fr) hjobs hfw 10 0 (by decide)
  rw [fgt_0, zupd_same hfw] at h9
  exact h9
set_option maxRecDepth 20000 in
set_option maxHeartbeats 4000000 in
theorem c1_add {fr : Nat} {M : zM} {c : Int32} {fw : Nat → Int32} (hjobs : M (9, 0) = some (.inr (1, [zi c, zr (14, 0), zr (15, 0), zr (16, 0), zr (17, 0)]))) (hfw : M (16, 0) = some (.inl (0, 10, .inl fw))) {W : Nat → Int32} (hwa : M (14, 0) = some (.inl (0, 6, .inl W))) {n : Nat} (hf : 1 ≤ fr) (hc : c.toInt = (n : Int)) (hn : n < 6) (w : Int32) : zCi zX1_add fr 0 0 [zr (9, 0), zi w] M (fun x M' => x = c ∧ M' = zupd (zupd (zupd M (14, 0) (.inl (0, 6, .inl (zup W n w)))) (9, 0) (.inr (1, [zi (c + 1), zr (14, 0), zr (15, 0), zr (16, 0), zr (17, 0)]))) (16, 0) (.inl (0, 10, .inl (fgt fw 10)))) := by
  refine z_enter (L := [some (zr (9, 0)), some (zi w)]) rfl (by decide +kernel) (Nat.le_of_ble_eq_true rfl) ?_
  refine z_al iX1_add_0 rfl ?_
  refine z_gf iX1_add_1 hjobs rfl ?_
  refine z_co iX1_add_4 ?_
  refine z_icmp_lt iX1_add_6 (fun h1 => ?_) (fun h1 => ?_)
  · refine z_al iX1_add_12 rfl ?_
    refine z_gf iX1_add_13 hjobs rfl ?_
    refine z_al iX1_add_16 rfl ?_
    refine z_gf iX1_add_17 hjobs rfl ?_
    refine z_il iX1_add_20 rfl ?_
    refine z_iast iX1_add_21 hwa (show 2 ≤ 14 by decide) hc hn ?_
    refine z_al iX1_add_22 rfl ?_
    refine z_dup iX1_add_23 ?_
    refine z_gf iX1_add_24 ((zupd_k (Nat.ne_of_beq_eq_false rfl)).trans hjobs) rfl ?_
    refine z_co iX1_add_27 ?_
    refine z_iadd iX1_add_28 ?_
    refine z_pf iX1_add_29 ((zupd_k (Nat.ne_of_beq_eq_false rfl)).trans hjobs) (show 2 ≤ 9 by decide) (Nat.le_of_ble_eq_true rfl) trivial ?_
    refine z_al iX1_add_32 rfl ?_
    refine z_cv0v (fr' := fr - 1) iX1_add_33 zmX1_forget zupd_s (c1_forget zupd_s ((zupd_k (by decide : (16 : Nat) ≠ 9)).trans ((zupd_k (by decide : (16 : Nat) ≠ 14)).trans hfw))) (by omega) (Nat.le_of_ble_eq_true rfl) (fun M1 hq => ?_)
    subst hq
    refine z_al iX1_add_36 rfl ?_
    refine z_gf iX1_add_37 ((zupd_k (Nat.ne_of_beq_eq_false rfl)).trans zupd_s) rfl ?_
    refine z_co iX1_add_40 ?_
    refine z_isub iX1_add_41 ?_
    refine z_iret iX1_add_42 rfl ?_
    exact ⟨_, rfl, by simp, rfl⟩
  · exfalso
    simp only [zi_lt, Int32.reduceToInt, hc] at h1
    omega
set_option maxRecDepth 20000 in
set_option maxHeartbeats 4000000 in
theorem c1_addF {fr : Nat} {M : zM} {c : Int32} (hjobs : M (9, 0) = some (.inr (1, [zi c, zr (14, 0), zr (15, 0), zr (16, 0), zr (17, 0)]))) (hc : c = 6) (w : Int32) : zCi zX1_add fr 0 0 [zr (9, 0), zi w] M (fun x M' => x = -4 ∧ M' = M) := by
  refine z_enter (L := [some (zr (9, 0)), some (zi w)]) rfl (by decide +kernel) (Nat.le_of_ble_eq_true rfl) ?_
  refine z_al iX1_add_0 rfl ?_
  refine z_gf iX1_add_1 hjobs rfl ?_
  refine z_co iX1_add_4 ?_
  refine z_icmp_lt iX1_add_6 (fun h1 => ?_) (fun h1 => ?_)
  · rw [hc] at h1
    exact absurd h1 (by decide)
  · refine z_co iX1_add_9 ?_
    refine z_iret iX1_add_11 rfl ?_
    exact ⟨_, rfl, rfl, rfl⟩
theorem c1_addJ {fr : Nat} {M : zM} {c : Int32} {fw : Nat → Int32} (hjobs : M (9, 0) = some (.inr (1, [zi c, zr (14, 0), zr (15, 0), zr (16, 0), zr (17, 0)]))) (hfw : M (16, 0) = some (.inl (0, 10, .inl fw))) {W : Nat → Int32} (hwa : M (14, 0) = some (.inl (0, 6, .inl W))) {n : Nat} (hf : 1 ≤ fr) (hc : c.toInt = (n : Int)) (hn : n ≤ 6) (w : Int32) : zCi zX1_add fr 0 0 [zr (9, 0), zi w] M (fun x M' => (c = 6 ∧ x = -4 ∧ M' = M) ∨ (¬ c = 6 ∧ x = c ∧ M' = zupd (zupd (zupd M (14, 0) (.inl (0, 6, .inl (zup W n w)))) (9, 0) (.inr (1, [zi (c + 1), zr (14, 0), zr (15, 0), zr (16, 0), zr (17, 0)]))) (16, 0) (.inl (0, 10, .inl (fgt fw 10))))) := by
  by_cases hq : c = 6
  · exact zCi.mono (c1_addF hjobs hq w) (fun x M' h => Or.inl ⟨hq, h⟩)
  · have h6 : n ≠ 6 := fun e => hq (Int32.toInt_inj.mp (by rw [hc, e]; decide))
    exact zCi.mono (c1_add hjobs hfw hwa hf hc (by omega) w) (fun x M' h => Or.inr ⟨hq, h⟩)
set_option maxRecDepth 20000 in
set_option maxHeartbeats 4000000 in
theorem px_job {TR : zTR} {JR : zJR} {fr : Nat} {M : zM} {I : zSI} {A : zSA} {L : zSL} (hJ : ∀ c W fw b, (∀ r, r < 10 → fw r = -2) → JR c W fw b) (hf : 4 ≤ fr) (hX : RepX TR JR M I A L) (hV : Val I A L) (w : Int32) : zCi zX10_job fr 0 0 [zr (2, 0), zi w] M (fun x M' => zEX TR JR M x (sp_job I A L w) M') := by
  refine z_enter (L := [some (zr (2, 0)), some (zi w)]) rfl (by decide +kernel) (Nat.le_of_ble_eq_true rfl) ?_
  obtain ⟨jr, jf, jb, hjobs, k1, k2, k3, k4, k5, -⟩ := hX.2.2.2.2.2.2.2.2
  refine z_il iX10_job_0 rfl ?_
  refine z_co iX10_job_1 ?_
  refine z_co iX10_job_2 ?_
  refine z_cs3i (fr' := fr - 1) iX10_job_5 zmX10_within (c10_within _ _ _) (by omega) (Nat.le_of_ble_eq_true rfl) (fun x M1 hq => ?_)
  obtain ⟨rfl, rfl⟩ := hq
  refine z_ib_eq iX10_job_8 (fun h1 => ?_) (fun h1 => ?_)
  · refine z_co iX10_job_19 ?_
    refine z_iret iX10_job_21 rfl ?_
    refine ⟨_, rfl, ?_⟩
    unfold sp_job
    first
    | (rw [if_pos (Or.inl h1)]; exact zEX.rd hX)
    | (rw [if_pos (Or.inr ?_)]
       · exact zEX.rd hX
       · have e1 := nI_toInt (n := zPop (zN w)) (by have := (zW10 h1).2.2; omega)
         rw [zi_le, e1] at h2
         simp only [Int32.reduceToInt] at h2
         omega)
  · refine z_il (x := nI (zN w)) iX10_job_11 (by rw [← (zW10 h1).1]; rfl) ?_
    refine z_cs1i (fr' := fr - 1) iX10_job_12 zmJ6_bitCount_0f7a4 (c6_bitCount (n := zN w) (zW10 h1).2.1) (by omega) (Nat.le_of_ble_eq_true rfl) (fun x M1 hq => ?_)
    obtain ⟨rfl, rfl⟩ := hq
    refine z_co iX10_job_15 ?_
    refine z_icmp_le iX10_job_16 (fun h2 => ?_) (fun h2 => ?_)
    · have e9 := zI9 hV
      refine z_al iX10_job_22 rfl ?_
      refine z_gf iX10_job_23 hX.1.1 rfl ?_
      refine z_il iX10_job_26 rfl ?_
      refine z_cv1i (fr' := fr - 1) iX10_job_27 zmX1_add hjobs (c1_addJ hjobs k3 k1 (by omega) e9.1 e9.2 w) (by omega) (Nat.le_of_ble_eq_true rfl) (fun x M1 hq => ?_)
      have hM := hq
      refine z_iret iX10_job_30 rfl ?_
      refine ⟨_, rfl, ?_⟩
      unfold sp_job
      have e1 := nI_toInt (n := zPop (zN w)) (by have := (zW10 h1).2.2; omega)
      rw [zi_le, e1] at h2
      simp only [Int32.reduceToInt] at h2
      rw [if_neg (fun q => q.elim (fun z => z h1) (fun z => by omega))]
      rcases hM with ⟨i9, hxe, hM2⟩ | ⟨i9, hxe, hM2⟩
      · rw [if_pos i9, hxe, hM2]
        exact zEX.rd hX
      · rw [if_neg i9]
        refine ⟨hxe, fun a ha => ?_, hX.jobs (fun a a1 a2 a3 a4 a5 => ?_) ⟨jr, fgt jf 10, jb, ?_, ?_, ?_, ?_, ?_, fun r hr => ?_, hJ _ _ _ _ (fun r hr => if_pos hr)⟩ (fun k hk => zup_n hk) (fun k k1 k2 => zA2_row k2)⟩
        · rw [hM2, zupd_k (by omega), zupd_k (by omega), zupd_k (by omega)]
        · rw [hM2, zupd_k a4, zupd_k a1, zupd_k a2]
        · rw [hM2, zupd_k (by decide : (9 : Nat) ≠ 16), zupd_s]
          show _ = some (Sum.inr (1, [zi (zup I 9 (I 9 + 1) 9), zr (14, 0), zr (15, 0), zr (16, 0), zr (17, 0)]))
          rw [zup_s]
        · rw [hM2, zupd_k (by decide : (14 : Nat) ≠ 16), zupd_k (by decide : (14 : Nat) ≠ 9), zupd_s]
          rfl
        · rw [hM2, zupd_k (by decide : (15 : Nat) ≠ 16), zupd_k (by decide : (15 : Nat) ≠ 9), zupd_k (by decide : (15 : Nat) ≠ 14)]; exact k2
        · rw [hM2, zupd_s]
        · rw [hM2, zupd_k (by decide : (17 : Nat) ≠ 16), zupd_k (by decide : (17 : Nat) ≠ 9), zupd_k (by decide : (17 : Nat) ≠ 14)]; exact k4
        · rw [hM2, zupd_k (by decide : (18 : Nat) ≠ 16), zupd_k (by decide : (18 : Nat) ≠ 9), zupd_k (by decide : (18 : Nat) ≠ 14)]; exact k5 r hr
    · refine z_co iX10_job_19 ?_
      refine z_iret iX10_job_21 rfl ?_
      refine ⟨_, rfl, ?_⟩
      unfold sp_job
      first
      | (rw [if_pos (Or.inl h1)]; exact zEX.rd hX)
      | (rw [if_pos (Or.inr ?_)]
         · exact zEX.rd hX
         · have e1 := nI_toInt (n := zPop (zN w)) (by have := (zW10 h1).2.2; omega)
           rw [zi_le, e1] at h2
           simp only [Int32.reduceToInt] at h2
           omega)
set_option maxRecDepth 20000 in
set_option maxHeartbeats 4000000 in
theorem pm_job {fr : Nat} {M : zM} {I J : zSI} {A : zSA} {L : zSL} {K : Int64} (hf : 4 ≤ fr) (hR : RepM M I A L J K) (hV : Val I A L) (w : Int32) : zCi zX11_job fr 0 0 [zr (40, 0), zi w] M (fun x M' => zEM M x (sp_job I A L w) M') := by
  refine z_enter (L := [some (zr (40, 0)), some (zi w)]) rfl (by decide +kernel) (Nat.le_of_ble_eq_true rfl) ?_
  refine z_il iX11_job_0 rfl ?_
  refine z_co iX11_job_1 ?_
  refine z_co iX11_job_2 ?_
  refine z_cs3i (fr' := fr - 1) iX11_job_5 zmX11_in (c11_in _ _ _) (by omega) (Nat.le_of_ble_eq_true rfl) (fun x M1 hq => ?_)
  obtain ⟨rfl, rfl⟩ := hq
  refine z_ib_eq iX11_job_8 (fun h1 => ?_) (fun h1 => ?_)
  · refine z_co iX11_job_19 ?_
    refine z_iret iX11_job_21 rfl ?_
    refine ⟨_, rfl, ?_⟩
    unfold sp_job
    first
    | (rw [if_pos (Or.inl h1)]; exact zEM.rd hR)
    | (rw [if_pos (Or.inr ?_)]
       · exact zEM.rd hR
       · have e1 := nI_toInt (n := zPop (zN w)) (by have := (zW10 h1).2.2; omega)
         rw [zi_le, e1] at h2
         simp only [Int32.reduceToInt] at h2
         omega)
  · refine z_il (x := nI (zN w)) iX11_job_11 (by rw [← (zW10 h1).1]; rfl) ?_
    refine z_cs1i (fr' := fr - 1) iX11_job_12 zmX11_bits (c11_bits (w := zN w) (zW10 h1).2.1) (by omega) (Nat.le_of_ble_eq_true rfl) (fun x M1 hq => ?_)
    obtain ⟨rfl, rfl⟩ := hq
    refine z_co iX11_job_15 ?_
    refine z_icmp_le iX11_job_16 (fun h2 => ?_) (fun h2 => ?_)
    · refine z_al iX11_job_22 rfl ?_
      refine z_gf iX11_job_23 hR.1 rfl ?_
      refine z_co iX11_job_26 ?_
      refine z_icmp_ne iX11_job_28 (fun h3 => ?_) (fun h3 => ?_)
      · have e9 := zI9 hV
        have b9 : zN (I 9) < 6 := by
          have z : ¬ (I 9).toInt = 6 := fun q => h3 (Int32.toInt_inj.mp q)
          omega
        refine z_al iX11_job_34 rfl ?_
        refine z_gf iX11_job_35 hR.1 rfl ?_
        refine z_al iX11_job_38 rfl ?_
        refine z_gf iX11_job_39 hR.1 rfl ?_
        refine z_il iX11_job_42 rfl ?_
        refine z_iast iX11_job_43 (hR.2.1 25 (by decide)) (show 2 ≤ 41 by decide) e9.1 b9 ?_
        refine z_al iX11_job_44 rfl ?_
        refine z_dup iX11_job_45 ?_
        refine z_gf iX11_job_46 ((zupd_k (Nat.ne_of_beq_eq_false rfl)).trans hR.1) rfl ?_
        refine z_co iX11_job_49 ?_
        refine z_iadd iX11_job_50 ?_
        refine z_pf iX11_job_51 ((zupd_k (Nat.ne_of_beq_eq_false rfl)).trans hR.1) (by decide) (Nat.le_of_ble_eq_true rfl) trivial ?_
        refine z_al iX11_job_54 rfl ?_
        refine z_gf iX11_job_55 zupd_s rfl ?_
        refine z_co iX11_job_58 ?_
        refine z_isub iX11_job_59 ?_
        refine z_iret iX11_job_60 rfl ?_
        refine ⟨_, rfl, ?_⟩
        unfold sp_job
        have e1 := nI_toInt (n := zPop (zN w)) (by have := (zW10 h1).2.2; omega)
        rw [zi_le, e1] at h2
        simp only [Int32.reduceToInt] at h2
        rw [if_neg (fun q => q.elim (fun z => z h1) (fun z => by omega))]
        rw [if_neg h3]
        exact ⟨by simp, fun a ha => (zupd_k (show a.1 ≠ 40 by omega)).trans (zupd_k (show a.1 ≠ 41 by omega)), _, J, K, fun _ _ => rfl, (hR.arr 25 (zup (A 25) (zN (I 9)) w)).obj (I' := zup I 9 (I 9 + 1)) (J' := J) (K' := K) rfl⟩
      · refine z_co iX11_job_31 ?_
        refine z_iret iX11_job_33 rfl ?_
        refine ⟨_, rfl, ?_⟩
        unfold sp_job
        have e1 := nI_toInt (n := zPop (zN w)) (by have := (zW10 h1).2.2; omega)
        rw [zi_le, e1] at h2
        simp only [Int32.reduceToInt] at h2
        rw [if_neg (fun q => q.elim (fun z => z h1) (fun z => by omega))]
        rw [if_pos h3]
        exact zEM.rd hR
    · refine z_co iX11_job_19 ?_
      refine z_iret iX11_job_21 rfl ?_
      refine ⟨_, rfl, ?_⟩
      unfold sp_job
      first
      | (rw [if_pos (Or.inl h1)]; exact zEM.rd hR)
      | (rw [if_pos (Or.inr ?_)]
         · exact zEM.rd hR
         · have e1 := nI_toInt (n := zPop (zN w)) (by have := (zW10 h1).2.2; omega)
           rw [zi_le, e1] at h2
           simp only [Int32.reduceToInt] at h2
           omega)
theorem zp_job {TR : zTR} {JR : zJR} (hJ : ∀ c W fw b, (∀ r, r < 10 → fw r = -2) → JR c W fw b) (w : Int32) : zPI (zInv TR JR) zX10_job zX11_job 0 0 [zi w] :=
  zPI_of (fun I A L => sp_job I A L w) (fun _ _ _ _ _ hf hX hV => px_job hJ (by omega) hX hV w) (fun _ _ _ _ _ _ _ hf hR hV => pm_job (by omega) hR hV w) (fun I A L hV => by
    show Val (sp_job I A L w).2.1 (sp_job I A L w).2.2.1 (sp_job I A L w).2.2.2
    unfold sp_job
    by_cases c1 : ¬ zBw w 1 1023 ∨ 5 < zPop (zN w)
    · rw [if_pos c1]; exact hV
    · rw [if_neg c1]
      by_cases c2 : I 9 = 6
      · rw [if_pos c2]; exact hV
      · rw [if_neg c2]
        have d1 : zBw w 1 1023 := Decidable.of_not_not fun z => c1 (Or.inl z)
        have e9 := zI9 hV
        have c3 : ¬ (I 9).toInt = 6 := fun q => c2 (Int32.toInt_inj.mp q)
        have e10 : (I 9 + 1).toInt = (I 9).toInt + 1 := by rw [zadd (by simp only [Int32.reduceToInt]; omega) (by simp only [Int32.reduceToInt]; omega)]; rfl
        have r : ∀ k, k ≠ 25 → zA2 A 25 (zN (I 9)) w k = A k := fun k hk => zA2_row hk
        obtain ⟨h1, h2, h3, h4, h5, h6, h7, h8⟩ := hV
        show Val (zup I 9 (I 9 + 1)) (zA2 A 25 (zN (I 9)) w) L
        refine ⟨⟨h1.1, h1.2.1, h1.2.2.1, h1.2.2.2.1, h1.2.2.2.2.1, h1.2.2.2.2.2.1, ?_⟩, ?_, ?_, ?_, ?_, fun j hj hj2 => ?_, ?_, ?_⟩
        · rw [zup_s]
          unfold zRg
          omega
        · rw [r 0 (by decide), r 4 (by decide), r 5 (by decide), r 11 (by decide)]; exact h2
        · rw [r 13 (by decide), r 14 (by decide), r 17 (by decide), r 18 (by decide), r 23 (by decide)]; exact h3
        · rw [r 23 (by decide), r 22 (by decide)]; exact h4
        · rw [r 20 (by decide)]; exact h5
        · rw [zup_s] at hj2
          by_cases z : j = zN (I 9)
          · have e : zA2 A 25 (zN (I 9)) w 25 j = w := by unfold zA2; rw [zup_s, z, zup_s]
            show zRg (zA2 A 25 (zN (I 9)) w 25 j) 1 1023
            rw [e]
            exact ⟨zi_le.mp d1.1, zi_le.mp d1.2⟩
          · show zRg (zA2 A 25 (zN (I 9)) w 25 j) 1 1023
            rw [zA2_col z]
            exact h6 j hj (by omega)
        · rw [r 26 (by decide), r 27 (by decide), r 28 (by decide)]; exact h7
        · rw [r 24 (by decide)]; exact h8)
