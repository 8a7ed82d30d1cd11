theorem RepX.held {TR : zTR} {JR : zJR} {M : zM} {I : zSI} {A A' : zSA} {L : zSL} (h : RepX TR JR M I A L) {m : Nat} (hm : (m : Int) < (I 8).toInt) {g : Nat → Int32} (hg : ∀ j, j < 16 → g j = A' 24 (16 * m + j))
    (hA : ∀ k, k < 30 → k ≠ 24 → A' k = A k) (hj : ∀ j, (j < 16 * m ∨ 16 * m + 16 ≤ j) → A' 24 j = A 24 j) : RepX TR JR (zupd M (32, m) (.inl (0, 16, .inl g))) I A' L := by
  obtain ⟨h1, h2, h3, h4, h5, h6, h7, h8, h9⟩ := h
  have q := fun k h1 h2 => (hA k h1 h2).symm
  have q0 := q 0 (by decide) (by decide); have q1 := q 1 (by decide) (by decide); have q2 := q 2 (by decide) (by decide); have q3 := q 3 (by decide) (by decide); have q4 := q 4 (by decide) (by decide); have q5 := q 5 (by decide) (by decide); have q6 := q 6 (by decide) (by decide); have q7 := q 7 (by decide) (by decide); have q8 := q 8 (by decide) (by decide); have q9 := q 9 (by decide) (by decide); have q10 := q 10 (by decide) (by decide); have q11 := q 11 (by decide) (by decide); have q12 := q 12 (by decide) (by decide); have q13 := q 13 (by decide) (by decide); have q14 := q 14 (by decide) (by decide); have q15 := q 15 (by decide) (by decide); have q16 := q 16 (by decide) (by decide); have q17 := q 17 (by decide) (by decide); have q18 := q 18 (by decide) (by decide); have q19 := q 19 (by decide) (by decide); have q20 := q 20 (by decide) (by decide); have q21 := q 21 (by decide) (by decide); have q22 := q 22 (by decide) (by decide); have q23 := q 23 (by decide) (by decide); have q25 := q 25 (by decide) (by decide); have q26 := q 26 (by decide) (by decide); have q27 := q 27 (by decide) (by decide); have q28 := q 28 (by decide) (by decide); have q29 := q 29 (by decide) (by decide)
  refine ⟨h1.fr fun k g1 g2 => zupd_k (show k ≠ 32 by omega), ?_, ?_, ⟨fun e' he' => ?_, fun e' he' => ?_⟩, ?_, ?_, ?_, h8.fr (zupd_k (by decide : (11 : Nat) ≠ 32)) (zupd_k (by decide : (12 : Nat) ≠ 32)) (zupd_k (by decide : (22 : Nat) ≠ 32)) (zupd_k (by decide : (13 : Nat) ≠ 32)), ?_⟩
  · simp only [xEd, xEdge, q0, q1, q2, q3, q4, q5, q6, q7, q8, q9, q10, q11] at h2
    exact xEd.fr (A := A') h2 (fun e => zupd_k (by decide : (28 : Nat) ≠ 32)) (fun e => zupd_k (by decide : (29 : Nat) ≠ 32))
  · simp only [xTo, xTool, q12, q13, q14, q15, q16, q17, q18] at h3
    exact xTo.fr (A := A') h3 (fun e => zupd_k (by decide : (30 : Nat) ≠ 32))
  · obtain ⟨g1, f, g2, g3⟩ := h4.1 e' he'
    have g1' : zupd M (32, m) (.inl (0, 16, .inl g)) (31, e') = some (.inr (2, xMach A' e')) := by
      rw [zupd_k (by decide : (31 : Nat) ≠ 32), g1]
      unfold xMach
      rw [q22, q23]
    refine ⟨g1', ?_⟩
    by_cases z : e' = m
    · subst z; exact ⟨g, zupd_s, hg⟩
    · exact ⟨f, (zupd_i z).trans g2, fun j hj2 => (g3 j hj2).trans (hj _ (by omega)).symm⟩
  · obtain ⟨g1, g2⟩ := h4.2 e' he'
    exact ⟨(zupd_k (by decide : (31 : Nat) ≠ 32)).trans g1, (zupd_i (show e' ≠ m by omega)).trans g2⟩
  · simp only [xSh, q26, q27, q28, q29] at h5
    exact xSh.fr (A := A') h5 (fun e => zupd_k (by decide : (26 : Nat) ≠ 32)) (fun e => zupd_k (by decide : (27 : Nat) ≠ 32))
  · simp only [xTx, q19, q20] at h6
    exact xTx.fr (A := A') h6 (fun e => zupd_k (by decide : (23 : Nat) ≠ 32)) (fun e => zupd_k (by decide : (24 : Nat) ≠ 32)) (fun e => zupd_k (by decide : (25 : Nat) ≠ 32))
  · simp only [xTa, q21] at h7
    exact xTa.fr (A := A') h7 (zupd_k (by decide : (10 : Nat) ≠ 32)) (zupd_k (by decide : (19 : Nat) ≠ 32)) (zupd_k (by decide : (20 : Nat) ≠ 32)) (zupd_k (by decide : (21 : Nat) ≠ 32))
  · simp only [xJo, q25] at h9
    exact xJo.fr (A := A') h9 (zupd_k (by decide : (9 : Nat) ≠ 32)) (zupd_k (by decide : (14 : Nat) ≠ 32)) (zupd_k (by decide : (15 : Nat) ≠ 32)) (zupd_k (by decide : (16 : Nat) ≠ 32)) (zupd_k (by decide : (17 : Nat) ≠ 32)) (fun e => zupd_k (by decide : (18 : Nat) ≠ 32))
def sp_at (I : zSI) (A : zSA) (L : zSL) (m p : Int32) : zRes := (if ¬ zBw m 0 (I 8 - 1) ∨ ¬ (0 ≤ p.toInt ∧ p.toInt < (A 23 (zN m)).toInt) then -2 else A 24 (16 * zN m + zN p), I, A, L)
def sp_room (I : zSI) (A : zSA) (L : zSL) (m t : Int32) : zRes := (if ¬ zBw m 0 (I 8 - 1) ∨ ¬ zBw t 0 (I 1 - 1) then -2 else zFirst (fun p => decide (zFree A (zN m) (zN t) p)) (zN (A 23 (zN m))) 0, I, A, L)
/-- the state behind a tool's leaving its places -/
def sA_take (A : zSA) (m t : Nat) : zSA := zA2 (zA2 (zup A 24 (zFill (A 24) (16 * m + zN (A 18 t)) (zN (A 14 t)) (-1))) 17 t (-1)) 18 t (-1)
def sp_take (I : zSI) (A : zSA) (L : zSL) (t : Int32) : zRes := if ¬ zBw t 0 (I 1 - 1) then (-2, I, A, L) else if A 17 (zN t) = -1 then (-3, I, A, L) else (A 17 (zN t), I, sA_take A (zN (A 17 (zN t))) (zN t), L)
theorem zPl {I : zSI} {A : zSA} {L : zSL} (hV : Val I A L) {m : Int32} (h : zBw m 0 (I 8 - 1)) : zRg (A 23 (zN m)) 4 16 := (hV.2.2.2.1 (zN m) (zIdx h hV.1.2.2.2.2.2.1 (by decide)).2.1).1
theorem zPb {I : zSI} {A : zSA} {L : zSL} (hV : Val I A L) {m p : Int32} (h : zBw m 0 (I 8 - 1)) : zBw p 0 (A 23 (zN m) - 1) ↔ 0 ≤ p.toInt ∧ p.toInt < (A 23 (zN m)).toInt := by
  have h1 := zPl hV h
  obtain ⟨g1, g2⟩ := h1
  show 0 ≤ p ∧ p ≤ A 23 (zN m) - 1 ↔ _
  rw [zi_le, zi_le, zsub (by simp only [Int32.reduceToInt]; omega) (by simp only [Int32.reduceToInt]; omega)]
  simp only [Int32.reduceToInt]
  omega
theorem zPn {p : Int32} (h : 0 ≤ p.toInt) : p.toInt = (zN p : Int) := by
  have e0 : zN p = p.toInt.toNat := rfl
  omega
theorem zM3 {I : zSI} {A : zSA} {L : zSL} (hV : Val I A L) {m : Int32} (h : zBw m 0 (I 8 - 1)) : m.toInt = (zN m : Int) ∧ zN m < 3 ∧ (zN m : Int) < (I 8).toInt := by
  have h1 := zIdx h hV.1.2.2.2.2.2.1 (by decide)
  exact ⟨h1.1, Int.ofNat_lt.mp h1.2.2, h1.2.1⟩
theorem zT10 {I : zSI} {A : zSA} {L : zSL} (hV : Val I A L) {m : Int32} (h : zBw m 0 (I 1 - 1)) : m.toInt = (zN m : Int) ∧ zN m < 10 ∧ (zN m : Int) < (I 1).toInt := by
  have h1 := zIdx h hV.1.2.1 (by decide)
  exact ⟨h1.1, Int.ofNat_lt.mp h1.2.2, h1.2.1⟩
theorem zMpi {I : zSI} {A : zSA} {L : zSL} (hV : Val I A L) {m p : Int32} (h : zBw m 0 (I 8 - 1)) (hp : 0 ≤ p.toInt ∧ p.toInt < (A 23 (zN m)).toInt) : (16 * m + p).toInt = ((16 * zN m + zN p : Nat) : Int) ∧ 16 * zN m + zN p < 48 := by
  have z1 := zPl hV h
  obtain ⟨z2, z3⟩ := z1
  have z4 := zM3 hV h
  have z5 := zPn hp.1
  have z6 := hp.2
  exact ⟨zLin (C := 16) rfl z4.1 z5 (by omega), by omega⟩
set_option maxRecDepth 20000 in
set_option maxHeartbeats 4000000 in
theorem pm_at {fr : Nat} {M : zM} {I J : zSI} {A : zSA} {L : zSL} {K : Int64} (hf : 3 ≤ fr) (hR : RepM M I A L J K) (hV : Val I A L) (m p : Int32) : zCi zX11_at fr 0 0 [zr (40, 0), zi m, zi p] M (fun x M' => zEM M x (sp_at I A L m p) M') := by
  refine z_enter (L := [some (zr (40, 0)), some (zi m), some (zi p)]) rfl (by decide +kernel) (Nat.le_of_ble_eq_true rfl) ?_
  refine z_al iX11_at_0 rfl ?_
  refine z_il iX11_at_1 rfl ?_
  refine z_cv1i (fr' := fr - 1) iX11_at_2 zmX11_isMachine hR.1 (c11_isMachine (by omega) hR _) (by omega) (Nat.le_of_ble_eq_true rfl) (fun x M1 hq => ?_)
  obtain ⟨rfl, rfl⟩ := hq
  refine z_ib_eq iX11_at_5 (fun h1 => ?_) (fun h1 => ?_)
  · refine z_co iX11_at_38 ?_
    refine z_iret iX11_at_40 rfl ?_
    refine ⟨_, rfl, zM_rd hR ?_⟩
    unfold sp_at
    first | exact congrArg (fun y => (y, I, A, L)) (if_neg (fun q => q.elim (fun z => z h1) (fun z => z h2))) | exact congrArg (fun y => (y, I, A, L)) (if_pos (Or.inl h1)) | exact congrArg (fun y => (y, I, A, L)) (if_pos (Or.inr (fun z => h2 ((zPb hV h1).mpr z))))
  · refine z_il iX11_at_8 rfl ?_
    refine z_co iX11_at_9 ?_
    refine z_al iX11_at_10 rfl ?_
    refine z_gf iX11_at_11 hR.1 rfl ?_
    refine z_il iX11_at_14 rfl ?_
    refine z_iald iX11_at_15 (hR.2.1 23 (by decide)) (zIdx h1 hV.1.2.2.2.2.2.1 (by decide)).1 (zLt (zIdx h1 hV.1.2.2.2.2.2.1 (by decide)).2.2) ?_
    refine z_co iX11_at_16 ?_
    refine z_isub iX11_at_17 ?_
    refine z_cs3i (fr' := fr - 1) iX11_at_18 zmX11_in (c11_in _ _ _) (by omega) (Nat.le_of_ble_eq_true rfl) (fun x M1 hq => ?_)
    obtain ⟨rfl, rfl⟩ := hq
    refine z_ib_eq iX11_at_21 (fun h2 => ?_) (fun h2 => ?_)
    · refine z_co iX11_at_38 ?_
      refine z_iret iX11_at_40 rfl ?_
      refine ⟨_, rfl, zM_rd hR ?_⟩
      unfold sp_at
      first | exact congrArg (fun y => (y, I, A, L)) (if_neg (fun q => q.elim (fun z => z h1) (fun z => z h2))) | exact congrArg (fun y => (y, I, A, L)) (if_pos (Or.inl h1)) | exact congrArg (fun y => (y, I, A, L)) (if_pos (Or.inr (fun z => h2 ((zPb hV h1).mpr z))))
    · rw [zPb hV h1] at h2
      refine z_al iX11_at_24 rfl ?_
      refine z_gf iX11_at_25 hR.1 rfl ?_
      refine z_co iX11_at_28 ?_
      refine z_il iX11_at_30 rfl ?_
      refine z_imul iX11_at_31 ?_
      refine z_il iX11_at_32 rfl ?_
      refine z_iadd iX11_at_33 ?_
      refine z_iald iX11_at_34 (hR.2.1 24 (by decide)) (zMpi hV h1 h2).1 (zMpi hV h1 h2).2 ?_
      refine z_goto iX11_at_35 ?_
      refine z_iret iX11_at_40 rfl ?_
      refine ⟨_, rfl, zM_rd hR ?_⟩
      unfold sp_at
      first | exact congrArg (fun y => (y, I, A, L)) (if_neg (fun q => q.elim (fun z => z h1) (fun z => z h2))) | exact congrArg (fun y => (y, I, A, L)) (if_pos (Or.inl h1)) | exact congrArg (fun y => (y, I, A, L)) (if_pos (Or.inr (fun z => h2 ((zPb hV h1).mpr z))))
set_option maxRecDepth 20000 in
set_option maxHeartbeats 4000000 in
theorem px_at {TR : zTR} {JR : zJR} {fr : Nat} {M : zM} {I : zSI} {A : zSA} {L : zSL} (hf : 4 ≤ fr) (hX : RepX TR JR M I A L) (hV : Val I A L) (m : Int32) (p : Int32) : zCi zX10_at fr 0 0 [zr (2, 0), zi m, zi p] M (fun x M' => zEX TR JR M x (sp_at I A L m p) M') := by
  refine z_enter (L := [some (zr (2, 0)), some (zi m), some (zi p)]) rfl (by decide +kernel) (Nat.le_of_ble_eq_true rfl) ?_
  refine z_al iX10_at_0 rfl ?_
  refine z_il iX10_at_1 rfl ?_
  refine z_cv1a (fr' := fr - 1) iX10_at_2 zmX10_machineOf hX.1.1 (c10_machineOf (by omega) hX hV _) (by omega) (Nat.le_of_ble_eq_true rfl) (fun x M1 hq => ?_)
  obtain ⟨rfl, rfl⟩ := hq
  refine z_as iX10_at_5 ?_
  refine z_alo iX10_at_6 rfl ?_
  refine z_ifnull iX10_at_7 (fun h1 => ?_) (fun x1 h1 => ?_)
  · refine z_co iX10_at_18 ?_
    refine z_iret iX10_at_20 rfl ?_
    refine ⟨_, rfl, ?_⟩
    unfold sp_at
    first | (have hn := if_pos (Or.inl (xo_n h1)); rw [hn]; exact zEX.rd hX) | (have hn := xo_n h1; rw [if_pos (Or.inl hn)]; exact zEX.rd hX) | (rw [if_pos (Or.inr (by assumption))]; exact zEX.rd hX)
  · rw [h1]
    obtain ⟨qh1, rfl⟩ := xo_s h1
    have hmach := (hX.2.2.2.1.1 _ (zIdx qh1 hV.1.2.2.2.2.2.1 (by decide)).2.1).1
    refine z_al iX10_at_10 rfl ?_
    refine z_il iX10_at_11 rfl ?_
    refine z_cv1i (fr' := fr - 1) iX10_at_12 zmX2_hasPlace hmach (c2_hasPlace (zPl hV qh1) hmach _) (by omega) (Nat.le_of_ble_eq_true rfl) (fun x M1 hq => ?_)
    obtain ⟨rfl, rfl⟩ := hq
    refine z_ib_ne iX10_at_15 (fun h2 => ?_) (fun h2 => ?_)
    · obtain ⟨fm, hheld, hfm⟩ := (hX.2.2.2.1.1 _ (zIdx qh1 hV.1.2.2.2.2.2.1 (by decide)).2.1).2
      refine z_al iX10_at_21 rfl ?_
      refine z_il iX10_at_22 rfl ?_
      refine z_cv1i (fr' := fr - 1) iX10_at_23 zmX2_heldAt hmach (c2_heldAt (zPl hV qh1) hmach hheld (by omega) _) (by omega) (Nat.le_of_ble_eq_true rfl) (fun x M1 hq => ?_)
      obtain ⟨rfl, rfl⟩ := hq
      refine z_iret iX10_at_26 rfl ?_
      refine ⟨_, rfl, ?_⟩
      unfold sp_at
      rw [if_neg (fun q => q.elim (fun z => z qh1) (fun z => z h2)), if_pos h2, hfm _ (by have z3 := zPl hV qh1; have z5 := zPn h2.1; have z6 := h2.2; have z7 := z3.2; omega)]; exact zEX.rd hX
    · refine z_co iX10_at_18 ?_
      refine z_iret iX10_at_20 rfl ?_
      refine ⟨_, rfl, ?_⟩
      unfold sp_at
      first | (have hn := if_pos (Or.inl (xo_n h1)); rw [hn]; exact zEX.rd hX) | (have hn := xo_n h1; rw [if_pos (Or.inl hn)]; exact zEX.rd hX) | (rw [if_pos (Or.inr (by assumption))]; exact zEX.rd hX)
theorem zp_at {TR : zTR} {JR : zJR} (m p : Int32) : zPI (zInv TR JR) zX10_at zX11_at 0 0 [zi m, zi p] :=
  zPI_of (fun I A L => sp_at I A L m p) (fun _ _ _ _ _ hf hX hV => px_at (by omega) hX hV m p) (fun _ _ _ _ _ _ _ hf hR hV => pm_at (by omega) hR hV m p) (fun I A L hV => hV)
theorem zWt {I : zSI} {A : zSA} {L : zSL} (hV : Val I A L) {t : Int32} (h : zBw t 0 (I 1 - 1)) : zRg (A 14 (zN t)) 1 3 ∧ (A 14 (zN t)).toInt = (zN (A 14 (zN t)) : Int) := by
  have h1 : zRg (A 14 (zN t)) 1 3 := (hV.2.2.1 (zN t) (zIdx h hV.1.2.1 (by decide)).2.1).2.1
  obtain ⟨g1, g2⟩ := h1
  exact ⟨⟨g1, g2⟩, zPn (by omega)⟩
set_option maxRecDepth 20000 in
set_option maxHeartbeats 4000000 in
theorem l11_isFree {fr : Nat} {M : zM} {I J : zSI} {A : zSA} {L : zSL} {K : Int64} (hR : RepM M I A L J K) (m t p : Int32) {mm tt P : Nat} (hm : m.toInt = (mm : Int)) (hm3 : mm < 3) (ht : t.toInt = (tt : Int)) (ht10 : tt < 10) (hp : p.toInt = (P : Int)) (hP : P < 100) (hw : zRg (A 14 tt) 1 3) (hpl : zRg (A 23 mm) 4 16) (hfit : P + zN (A 14 tt) ≤ zN (A 23 mm)) : ∀ (n i : Nat), i + n = zN (A 14 tt) → (∀ j, j < i → A 24 (16 * mm + P + j) = -1) → zV zX11_isFree fr 0 0 22 (zL [some (zr (40, 0)), some (zi m), some (zi t), some (zi p), some (zi (nI i))]) [] M (fun r M' => ∃ x, r = some (zi x) ∧ M' = M ∧ x = zbo (zFree A mm tt P)) := by
  intro n
  induction n with
  | zero =>
    intro i  hn hk
    obtain ⟨w3, w4⟩ := id hw
    obtain ⟨y3, y4⟩ := id hpl
    have e0 : zN (A 14 tt) = (A 14 tt).toInt.toNat := rfl
    have e1 : zN (A 23 mm) = (A 23 mm).toInt.toNat := rfl
    refine z_il iX11_isFree_22 rfl ?_
    refine z_al iX11_isFree_24 rfl ?_
    refine z_gf iX11_isFree_25 hR.1 rfl ?_
    refine z_il iX11_isFree_28 rfl ?_
    refine z_iald iX11_isFree_29 (hR.2.1 14 (by decide)) ht ht10 ?_
    refine z_icmp_ge iX11_isFree_30 (fun h1 => ?_) (fun h1 => ?_)
    · refine z_co iX11_isFree_59 ?_
      refine z_zret iX11_isFree_60 rfl rfl ?_
      exact ⟨_, rfl, rfl, (zbo_1 ⟨hfit, fun j hj => hk j (by omega)⟩).symm⟩
    · exact absurd (zi_le.mpr (by rw [nI_toInt (by omega)]; omega)) h1
  | succ n ih =>
    intro i  hn hk
    obtain ⟨w3, w4⟩ := id hw
    obtain ⟨y3, y4⟩ := id hpl
    have e0 : zN (A 14 tt) = (A 14 tt).toInt.toNat := rfl
    have e1 : zN (A 23 mm) = (A 23 mm).toInt.toNat := rfl
    refine z_il iX11_isFree_22 rfl ?_
    refine z_al iX11_isFree_24 rfl ?_
    refine z_gf iX11_isFree_25 hR.1 rfl ?_
    refine z_il iX11_isFree_28 rfl ?_
    refine z_iald iX11_isFree_29 (hR.2.1 14 (by decide)) ht ht10 ?_
    refine z_icmp_ge iX11_isFree_30 (fun h1 => ?_) (fun h1 => ?_)
    · exfalso
      have z1 := zi_le.mp h1
      rw [nI_toInt (by omega)] at z1
      omega
    · refine z_al iX11_isFree_33 rfl ?_
      refine z_gf iX11_isFree_34 hR.1 rfl ?_
      refine z_co iX11_isFree_37 ?_
      refine z_il iX11_isFree_39 rfl ?_
      refine z_imul iX11_isFree_40 ?_
      refine z_il iX11_isFree_41 rfl ?_
      refine z_iadd iX11_isFree_42 ?_
      refine z_il iX11_isFree_43 rfl ?_
      refine z_iadd iX11_isFree_45 ?_
      refine z_iald iX11_isFree_46 (hR.2.1 24 (by decide)) (zaddN (zLin (C := 16) rfl hm hp (by omega)) (by omega) (by omega)) (show 16 * mm + P + i < 48 by omega) ?_
      refine z_co iX11_isFree_47 ?_
      refine z_icmp_eq iX11_isFree_48 (fun h2 => ?_) (fun h2 => ?_)
      · refine z_in iX11_isFree_53 rfl ?_
        refine z_goto iX11_isFree_56 ?_
        refine z_loc [some (zr (40, 0)), some (zi m), some (zi t), some (zi p), some (zi (nI (i + 1)))] ⟨rfl, rfl, rfl, rfl, ?_, trivial⟩ (ih (i + 1) (by omega) (fun j hj => ?_))
        · show some (zi (nI i + 1)) = _
          rw [nI_1]
        · by_cases q : j = i
          · subst q; assumption
          · exact hk j (by omega)
      · refine z_co iX11_isFree_51 ?_
        refine z_zret iX11_isFree_52 rfl rfl ?_
        refine ⟨_, rfl, rfl, (zbo_0 (fun q => ?_)).symm⟩
        exact absurd (q.2 i (by omega)) (by assumption)
set_option maxRecDepth 20000 in
set_option maxHeartbeats 4000000 in
theorem c11_isFree {fr : Nat} {M : zM} {I J : zSI} {A : zSA} {L : zSL} {K : Int64} (hR : RepM M I A L J K) (m t p : Int32) {mm tt P : Nat} (hm : m.toInt = (mm : Int)) (hm3 : mm < 3) (ht : t.toInt = (tt : Int)) (ht10 : tt < 10) (hp : p.toInt = (P : Int)) (hP : P < 100) (hw : zRg (A 14 tt) 1 3) (hpl : zRg (A 23 mm) 4 16) : zCi zX11_isFree fr 0 0 [zr (40, 0), zi m, zi t, zi p] M (fun x M' => M' = M ∧ x = zbo (zFree A mm tt P)) := by
  refine z_enter (L := [some (zr (40, 0)), some (zi m), some (zi t), some (zi p)]) rfl (by decide +kernel) (Nat.le_of_ble_eq_true rfl) ?_
  obtain ⟨w3, w4⟩ := id hw
  obtain ⟨y3, y4⟩ := id hpl
  have e0 : zN (A 14 tt) = (A 14 tt).toInt.toNat := rfl
  have e1 : zN (A 23 mm) = (A 23 mm).toInt.toNat := rfl
  have ea : (p + A 14 tt).toInt = p.toInt + (A 14 tt).toInt := zadd (by omega) (by omega)
  refine z_il iX11_isFree_0 rfl ?_
  refine z_al iX11_isFree_1 rfl ?_
  refine z_gf iX11_isFree_2 hR.1 rfl ?_
  refine z_il iX11_isFree_5 rfl ?_
  refine z_iald iX11_isFree_6 (hR.2.1 14 (by decide)) ht ht10 ?_
  refine z_iadd iX11_isFree_7 ?_
  refine z_al iX11_isFree_8 rfl ?_
  refine z_gf iX11_isFree_9 hR.1 rfl ?_
  refine z_il iX11_isFree_12 rfl ?_
  refine z_iald iX11_isFree_13 (hR.2.1 23 (by decide)) hm hm3 ?_
  refine z_icmp_le iX11_isFree_14 (fun h1 => ?_) (fun h1 => ?_)
  · refine z_co iX11_isFree_19 ?_
    refine z_is iX11_isFree_20 ?_
    refine z_loc [some (zr (40, 0)), some (zi m), some (zi t), some (zi p), some (zi (nI 0))] ⟨rfl, rfl, rfl, rfl, rfl, trivial⟩ ?_
    exact l11_isFree hR m t p hm hm3 ht ht10 hp hP hw hpl (by have z1 := zi_le.mp h1; omega) (zN (A 14 tt)) 0 (by omega) (fun j hj => absurd hj (Nat.not_lt_zero j))
  · refine z_co iX11_isFree_17 ?_
    refine z_zret iX11_isFree_18 rfl rfl ?_
    refine ⟨_, rfl, rfl, (zbo_0 (fun q => h1 (zi_le.mpr ?_))).symm⟩
    have q1 := q.1
    omega
set_option maxRecDepth 20000 in
set_option maxHeartbeats 4000000 in
theorem l11_room {fr : Nat} {M : zM} {I J : zSI} {A : zSA} {L : zSL} {K : Int64} (hf : 1 ≤ fr) (hR : RepM M I A L J K) (hV : Val I A L) {m t : Int32} (hm : zBw m 0 (I 8 - 1)) (ht : zBw t 0 (I 1 - 1)) : ∀ (n i : Nat), i + n = zN (A 23 (zN m)) → zV zX11_room fr 0 0 21 (zL [some (zr (40, 0)), some (zi m), some (zi t), some (zi (nI i))]) [] M (fun r M' => ∃ x, r = some (zi x) ∧ M' = M ∧ x = zFirst (fun p => decide (zFree A (zN m) (zN t) p)) n i) := by
  intro n
  induction n with
  | zero =>
    intro i  hn 
    have hpl := zPl hV hm
    obtain ⟨y3, y4⟩ := hpl
    have e1 : zN (A 23 (zN m)) = (A 23 (zN m)).toInt.toNat := rfl
    refine z_il iX11_room_21 rfl ?_
    refine z_al iX11_room_22 rfl ?_
    refine z_gf iX11_room_23 hR.1 rfl ?_
    refine z_il iX11_room_26 rfl ?_
    refine z_iald iX11_room_27 (hR.2.1 23 (by decide)) (zM3 hV hm).1 (zM3 hV hm).2.1 ?_
    refine z_icmp_ge iX11_room_28 (fun h1 => ?_) (fun h1 => ?_)
    · refine z_co iX11_room_49 ?_
      refine z_iret iX11_room_50 rfl ?_
      exact ⟨_, rfl, rfl, rfl⟩
    · exact absurd (zi_le.mpr (by rw [nI_toInt (by omega)]; omega)) h1
  | succ n ih =>
    intro i  hn 
    have hpl := zPl hV hm
    obtain ⟨y3, y4⟩ := hpl
    have e1 : zN (A 23 (zN m)) = (A 23 (zN m)).toInt.toNat := rfl
    refine z_il iX11_room_21 rfl ?_
    refine z_al iX11_room_22 rfl ?_
    refine z_gf iX11_room_23 hR.1 rfl ?_
    refine z_il iX11_room_26 rfl ?_
    refine z_iald iX11_room_27 (hR.2.1 23 (by decide)) (zM3 hV hm).1 (zM3 hV hm).2.1 ?_
    refine z_icmp_ge iX11_room_28 (fun h1 => ?_) (fun h1 => ?_)
    · exfalso
      have z1 := zi_le.mp h1
      rw [nI_toInt (by omega)] at z1
      omega
    · refine z_al iX11_room_31 rfl ?_
      refine z_il iX11_room_32 rfl ?_
      refine z_il iX11_room_33 rfl ?_
      refine z_il iX11_room_34 rfl ?_
      refine z_cv3i (fr' := fr - 1) iX11_room_35 zmX11_isFree hR.1 (c11_isFree hR _ _ _ (zM3 hV hm).1 (zM3 hV hm).2.1 (zT10 hV ht).1 (zT10 hV ht).2.1 (nI_toInt (n := i) (by omega)) (by omega) (zWt hV ht).1 (zPl hV hm)) (by omega) (Nat.le_of_ble_eq_true rfl) (fun x M1 hq => ?_)
      obtain ⟨rfl, rfl⟩ := hq
      refine z_ib_eq iX11_room_38 (fun h2 => ?_) (fun h2 => ?_)
      · refine z_in iX11_room_43 rfl ?_
        refine z_goto iX11_room_46 ?_
        refine z_loc [some (zr (40, 0)), some (zi m), some (zi t), some (zi (nI (i + 1)))] ⟨rfl, rfl, rfl, ?_, trivial⟩ ((ih (i + 1) (by omega)).mono (fun r M' ⟨x, hr, hm2, hx⟩ => ⟨x, hr, hm2, hx.trans (if_neg (fun q => h2 (of_decide_eq_true q))).symm⟩))
        show some (zi (nI i + 1)) = _
        rw [nI_1]
      · refine z_il iX11_room_41 rfl ?_
        refine z_iret iX11_room_42 rfl ?_
        exact ⟨_, rfl, rfl, (if_pos (decide_eq_true h2)).symm⟩
set_option maxRecDepth 20000 in
set_option maxHeartbeats 4000000 in
theorem pm_room {fr : Nat} {M : zM} {I J : zSI} {A : zSA} {L : zSL} {K : Int64} (hf : 3 ≤ fr) (hR : RepM M I A L J K) (hV : Val I A L) (m : Int32) (t : Int32) : zCi zX11_room fr 0 0 [zr (40, 0), zi m, zi t] M (fun x M' => zEM M x (sp_room I A L m t) M') := by
  refine z_enter (L := [some (zr (40, 0)), some (zi m), some (zi t)]) rfl (by decide +kernel) (Nat.le_of_ble_eq_true rfl) ?_
  refine z_al iX11_room_0 rfl ?_
  refine z_il iX11_room_1 rfl ?_
  refine z_cv1i (fr' := fr - 1) iX11_room_2 zmX11_isMachine hR.1 (c11_isMachine (by omega) hR _) (by omega) (Nat.le_of_ble_eq_true rfl) (fun x M1 hq => ?_)
  obtain ⟨rfl, rfl⟩ := hq
  refine z_ib_eq iX11_room_5 (fun h1 => ?_) (fun h1 => ?_)
  · refine z_co iX11_room_16 ?_
    refine z_iret iX11_room_18 rfl ?_
    refine ⟨_, rfl, ?_⟩
    unfold sp_room
    repeat' split
    all_goals first | exact zEM.rd hR | (exfalso; simp only [true_and, and_true, false_and, and_false, true_or, or_true, false_or, or_false, not_true_eq_false, not_false_eq_true, zN, zBw, zUnd, zCor, zi_eq, zi_le, zi_lt, Int32.reduceToInt, List.length_cons, List.length_nil] at *; omega)
  · refine z_al iX11_room_8 rfl ?_
    refine z_il iX11_room_9 rfl ?_
    refine z_cv1i (fr' := fr - 1) iX11_room_10 zmX11_isTool hR.1 (c11_isTool (by omega) hR _) (by omega) (Nat.le_of_ble_eq_true rfl) (fun x M1 hq => ?_)
    obtain ⟨rfl, rfl⟩ := hq
    refine z_ib_ne iX11_room_13 (fun h2 => ?_) (fun h2 => ?_)
    · refine z_co iX11_room_19 ?_
      refine z_is iX11_room_20 ?_
      refine z_loc [some (zr (40, 0)), some (zi m), some (zi t), some (zi (nI 0))] ⟨rfl, rfl, rfl, rfl, trivial⟩ ?_
      refine (l11_room (by omega) hR hV h1 h2 (zN (A 23 (zN m))) 0 (by omega)).mono (fun r M' ⟨x, hr, hm, hx⟩ => ⟨x, hr, ?_⟩)
      subst hm
      refine zM_rd hR ?_
      unfold sp_room
      rw [if_neg (fun q => q.elim (fun z => z h1) (fun z => z h2)), hx]
    · refine z_co iX11_room_16 ?_
      refine z_iret iX11_room_18 rfl ?_
      refine ⟨_, rfl, ?_⟩
      unfold sp_room
      repeat' split
      all_goals first | exact zEM.rd hR | (exfalso; simp only [true_and, and_true, false_and, and_false, true_or, or_true, false_or, or_false, not_true_eq_false, not_false_eq_true, zN, zBw, zUnd, zCor, zi_eq, zi_le, zi_lt, Int32.reduceToInt, List.length_cons, List.length_nil] at *; omega)
theorem zFree_x {A : zSA} {m t P : Nat} {f : Nat → Int32} (hw : zRg (A 14 t) 1 3) (hpl : zRg (A 23 m) 4 16) (hf : ∀ j, j < 16 → f j = A 24 (16 * m + j)) : zFree A m t P ↔ ∀ j, j < zN (A 14 t) → P + j < zN (A 23 m) ∧ f (P + j) = -1 := by
  obtain ⟨w3, w4⟩ := hw
  obtain ⟨y3, y4⟩ := hpl
  have e0 : zN (A 14 t) = (A 14 t).toInt.toNat := rfl
  have e1 : zN (A 23 m) = (A 23 m).toInt.toNat := rfl
  constructor
  · rintro ⟨h1, h2⟩ j hj
    refine ⟨by omega, ?_⟩
    rw [hf _ (by omega), ← Nat.add_assoc]
    exact h2 j hj
  · intro h
    refine ⟨?_, fun j hj => ?_⟩
    · have := (h (zN (A 14 t) - 1) (by omega)).1
      omega
    · have h3 := h j hj
      rw [hf _ (by omega), ← Nat.add_assoc] at h3
      exact h3.2
set_option maxRecDepth 20000 in
set_option maxHeartbeats 4000000 in
theorem px_room {TR : zTR} {JR : zJR} {fr : Nat} {M : zM} {I : zSI} {A : zSA} {L : zSL} (hf : 4 ≤ fr) (hX : RepX TR JR M I A L) (hV : Val I A L) (m : Int32) (t : Int32) : zCi zX10_room fr 0 0 [zr (2, 0), zi m, zi t] M (fun x M' => zEX TR JR M x (sp_room I A L m t) M') := by
  refine z_enter (L := [some (zr (2, 0)), some (zi m), some (zi t)]) rfl (by decide +kernel) (Nat.le_of_ble_eq_true rfl) ?_
  refine z_al iX10_room_0 rfl ?_
  refine z_il iX10_room_1 rfl ?_
  refine z_cv1a (fr' := fr - 1) iX10_room_2 zmX10_machineOf hX.1.1 (c10_machineOf (by omega) hX hV _) (by omega) (Nat.le_of_ble_eq_true rfl) (fun x M1 hq => ?_)
  obtain ⟨rfl, rfl⟩ := hq
  refine z_as iX10_room_5 ?_
  refine z_al iX10_room_6 rfl ?_
  refine z_il iX10_room_7 rfl ?_
  refine z_cv1a (fr' := fr - 1) iX10_room_8 zmX10_toolOf hX.1.1 (c10_toolOf (by omega) hX hV _) (by omega) (Nat.le_of_ble_eq_true rfl) (fun x M1 hq => ?_)
  obtain ⟨rfl, rfl⟩ := hq
  refine z_as iX10_room_11 ?_
  refine z_alo iX10_room_13 rfl ?_
  refine z_ifnull iX10_room_14 (fun h1 => ?_) (fun x1 h1 => ?_)
  · refine z_co iX10_room_22 ?_
    refine z_iret iX10_room_24 rfl ?_
    refine ⟨_, rfl, ?_⟩
    unfold sp_room
    first | (have hn := xo_n h1; rw [if_pos (Or.inl hn)]; exact zEX.rd hX) | (have hn := xo_n h2; rw [if_pos (Or.inr hn)]; exact zEX.rd hX)
  · rw [h1]
    obtain ⟨qh1, rfl⟩ := xo_s h1
    have hmach := (hX.2.2.2.1.1 _ (zIdx qh1 hV.1.2.2.2.2.2.1 (by decide)).2.1).1
    refine z_alo iX10_room_17 rfl ?_
    refine z_ifnonnull iX10_room_19 (fun x2 h2 => ?_) (fun h2 => ?_)
    · rw [h2]
      obtain ⟨qh2, rfl⟩ := xo_s h2
      have htool := hX.2.2.1.1 _ (zIdx qh2 hV.1.2.1 (by decide)).2.1
      obtain ⟨fm, hheld, hfm⟩ := (hX.2.2.2.1.1 _ (zIdx qh1 hV.1.2.2.2.2.2.1 (by decide)).2.1).2
      refine z_al iX10_room_25 rfl ?_
      refine z_al iX10_room_26 rfl ?_
      refine z_gf iX10_room_28 htool rfl ?_
      refine z_cv1i (fr' := fr - 1) iX10_room_31 zmX2_leastRoom hmach (c2_leastRoom (zPl hV qh1) hmach hheld (by omega) _ (zWt hV qh2).2 (by have z9 := zWt hV qh2; have z8 := z9.1.2; omega) (fun p => decide (zFree A (zN m) (zN t) p)) (fun P hP => decide_eq_true_iff.trans (zFree_x (zWt hV qh2).1 (zPl hV qh1) hfm))) (by omega) (Nat.le_of_ble_eq_true rfl) (fun x M1 hq => ?_)
      obtain ⟨rfl, rfl⟩ := hq
      refine z_iret iX10_room_34 rfl ?_
      refine ⟨_, rfl, ?_⟩
      unfold sp_room
      rw [if_neg (fun q => q.elim (fun z => z qh1) (fun z => z qh2))]; exact zEX.rd hX
    · refine z_co iX10_room_22 ?_
      refine z_iret iX10_room_24 rfl ?_
      refine ⟨_, rfl, ?_⟩
      unfold sp_room
      first | (have hn := xo_n h1; rw [if_pos (Or.inl hn)]; exact zEX.rd hX) | (have hn := xo_n h2; rw [if_pos (Or.inr hn)]; exact zEX.rd hX)
theorem zp_room {TR : zTR} {JR : zJR} (m t : Int32) : zPI (zInv TR JR) zX10_room zX11_room 0 0 [zi m, zi t] :=
  zPI_of (fun I A L => sp_room I A L m t) (fun _ _ _ _ _ hf hX hV => px_room (by omega) hX hV m t) (fun _ _ _ _ _ _ _ hf hR hV => pm_room (by omega) hR hV m t) (fun I A L hV => hV)
