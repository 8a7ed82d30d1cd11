/-- the i-th byte of a number, shifted down -/
def bO (b : Int64) (i : Nat) : Int64 := b >>> ((8 * nI i).toInt64 &&& 63)
/-- the first i bytes come behind T others -/
def fdA (A : Nat → Int32) (b : Int64) (T i : Nat) : Nat → Int32 := fun j => if T ≤ j ∧ j < T + i then (bO b (j - T) &&& 255).toInt32 else A j
def fdX (f : Nat → Int32) (b : Int64) (T i : Nat) : Nat → Int32 := fun j => if T ≤ j ∧ j < T + i then (bO b (j - T)).toInt32.toInt8.toInt32 else f j
theorem fdA_1 {A : Nat → Int32} {b : Int64} {T i : Nat} : zup (fdA A b T i) (T + i) (bO b i &&& 255).toInt32 = fdA A b T (i + 1) := by
  funext j
  unfold zup fdA
  by_cases z : j = T + i
  · rw [if_pos z, if_pos (by omega), z, Nat.add_sub_cancel_left]
  · rw [if_neg z]
    by_cases z2 : T ≤ j ∧ j < T + i
    · rw [if_pos z2, if_pos (by omega)]
    · rw [if_neg z2, if_neg (by omega)]
theorem fdX_1 {A : Nat → Int32} {b : Int64} {T i : Nat} : zup (fdX A b T i) (T + i) (bO b i).toInt32.toInt8.toInt32 = fdX A b T (i + 1) := by
  funext j
  unfold zup fdX
  by_cases z : j = T + i
  · rw [if_pos z, if_pos (by omega), z, Nat.add_sub_cancel_left]
  · rw [if_neg z]
    by_cases z2 : T ≤ j ∧ j < T + i
    · rw [if_pos z2, if_pos (by omega)]
    · rw [if_neg z2, if_neg (by omega)]
theorem fdA_0 {A : Nat → Int32} {b : Int64} {T : Nat} : fdA A b T 0 = A := funext fun j => if_neg (by omega)
theorem fdX_0 {A : Nat → Int32} {b : Int64} {T : Nat} : fdX A b T 0 = A := funext fun j => if_neg (by omega)
theorem bO_all : ∀ k, k < 256 → 0 ≤ (Int64.ofNat k).toInt32.toInt ∧ (Int64.ofNat k).toInt32.toInt ≤ 255 := by decide +kernel
theorem bO_and (x : Int64) : ∃ k, k < 256 ∧ x &&& 255 = Int64.ofNat k := by
  refine ⟨(x &&& 255).toBitVec.toNat, ?_, ?_⟩
  · rw [Int64.toBitVec_and, BitVec.toNat_and]
    have : x.toBitVec.toNat &&& (255 : Int64).toBitVec.toNat ≤ (255 : Int64).toBitVec.toNat := Nat.and_le_right
    have e : (255 : Int64).toBitVec.toNat = 255 := rfl
    omega
  · rw [← Int64.toBitVec_inj]
    refine BitVec.eq_of_toNat_eq ?_
    show _ = (BitVec.ofNat 64 _).toNat
    rw [BitVec.toNat_ofNat, Nat.mod_eq_of_lt (x &&& 255).toBitVec.isLt]
theorem bO_rg (x : Int64) : 0 ≤ (x &&& 255).toInt32.toInt ∧ (x &&& 255).toInt32.toInt ≤ 255 := by
  obtain ⟨k, h1, h2⟩ := bO_and x
  rw [h2]
  exact bO_all k h1
theorem bO_by (x : Int64) : x.toInt32.toInt8.toInt32 = (x &&& 255).toInt32.toInt8.toInt32 := by
  rw [Int64.toInt8_toInt32, Int64.toInt8_toInt32, Int64.toInt8_and]
  have e : (255 : Int64).toInt8 = -1 := rfl
  rw [e, Int8.and_neg_one]
theorem zB18 {n : Int32} (h : zBw n 1 8) : n.toInt = (zN n : Int) ∧ zN n < 9 := by
  obtain ⟨h1, h2⟩ := h
  simp only [zi_le, Int32.reduceToInt] at *
  have e0 : zN n = n.toInt.toNat := rfl
  omega
/-- the tape has grown -/
theorem RepX.tape {JR : zJR} {TR : zTR} {M M' : zM} {I : zSI} {A : zSA} {L : zSL} {v : Int32} {g : Nat → Int32} (h : RepX TR JR M I A L) (hf : ∀ a : zAd, a ≠ (10, 0) → a ≠ (19, 0) → M' a = M a) (h1 : ∃ tc f, M' (10, 0) = some (.inr (7, [zr (19, 0), zr (20, 0), zr (21, 0), zi v, zi tc])) ∧ M' (19, 0) = some (.inl (2, 160, .inl f)) ∧ ∀ j : Nat, (j : Int) < v.toInt → f j = (g j).toInt8.toInt32 ∧ (0 ≤ (g j).toInt ∧ (g j).toInt ≤ 255)) : RepX TR JR M' (zup I 7 v) (zup A 21 g) L := by
  obtain ⟨k1, k2, k3, k4, k5, k6, k7, k8, k9⟩ := h
  obtain ⟨tc, f, h3, h4, h5⟩ := h1
  have q : ∀ k, k < 30 → k ≠ 21 → A k = zup A 21 g k := fun k _ h2 => (zup_n h2).symm
  have q0 := q 0 (by decide) (by decide); have q1 := q 1 (by decide) (by decide); have q2 := q 2 (by decide) (by decide); have q3 := q 3 (by decide) (by decide); have q4 := q 4 (by decide) (by decide); have q5 := q 5 (by decide) (by decide); have q6 := q 6 (by decide) (by decide); have q7 := q 7 (by decide) (by decide); have q8 := q 8 (by decide) (by decide); have q9 := q 9 (by decide) (by decide); have q10 := q 10 (by decide) (by decide); have q11 := q 11 (by decide) (by decide); have q12 := q 12 (by decide) (by decide); have q13 := q 13 (by decide) (by decide); have q14 := q 14 (by decide) (by decide); have q15 := q 15 (by decide) (by decide); have q16 := q 16 (by decide) (by decide); have q17 := q 17 (by decide) (by decide); have q18 := q 18 (by decide) (by decide); have q19 := q 19 (by decide) (by decide); have q20 := q 20 (by decide) (by decide); have q22 := q 22 (by decide) (by decide); have q23 := q 23 (by decide) (by decide); have q24 := q 24 (by decide) (by decide); have q25 := q 25 (by decide) (by decide); have q26 := q 26 (by decide) (by decide); have q27 := q 27 (by decide) (by decide); have q28 := q 28 (by decide) (by decide); have q29 := q 29 (by decide) (by decide)
  refine ⟨k1.fr (I := I) fun k g1 g2 => hf (k, 0) (fun q => absurd (show k = 10 from congrArg Prod.fst q) (by omega)) (fun q => absurd (show k = 19 from congrArg Prod.fst q) (by omega)), ?_, ?_, ?_, ?_, ?_, ?_, k8.fr (hf (11, 0) (zad1 (by decide)) (zad1 (by decide))) (hf (12, 0) (zad1 (by decide)) (zad1 (by decide))) (hf (22, 0) (zad1 (by decide)) (zad1 (by decide))) (hf (13, 0) (zad1 (by decide)) (zad1 (by decide))), ?_⟩
  · simp only [xEd, xEdge, q0, q1, q2, q3, q4, q5, q6, q7, q8, q9, q10, q11] at k2
    exact xEd.fr (I := zup I 7 v) (A := zup A 21 g) k2 (fun e => hf (28, e) (zad1 (by decide)) (zad1 (by decide))) (fun e => hf (29, e) (zad1 (by decide)) (zad1 (by decide)))
  · simp only [xTo, xTool, q12, q13, q14, q15, q16, q17, q18] at k3
    exact xTo.fr (I := zup I 7 v) (A := zup A 21 g) k3 (fun e => hf (30, e) (zad1 (by decide)) (zad1 (by decide)))
  · simp only [xMa, xMach, q22, q23, q24] at k4
    exact xMa.fr (I := zup I 7 v) (A := zup A 21 g) k4 (fun e => hf (31, e) (zad1 (by decide)) (zad1 (by decide))) (fun e => hf (32, e) (zad1 (by decide)) (zad1 (by decide)))
  · simp only [xSh, q26, q27, q28, q29] at k5
    exact xSh.fr (A := zup A 21 g) k5 (fun e => hf (26, e) (zad1 (by decide)) (zad1 (by decide))) (fun e => hf (27, e) (zad1 (by decide)) (zad1 (by decide)))
  · simp only [xTx, q19, q20] at k6
    exact xTx.fr (I := zup I 7 v) (A := zup A 21 g) k6 (fun e => hf (23, e) (zad1 (by decide)) (zad1 (by decide))) (fun e => hf (24, e) (zad1 (by decide)) (zad1 (by decide))) (fun e => hf (25, e) (zad1 (by decide)) (zad1 (by decide)))
  · obtain ⟨tc0, f0, g0, w0, -, -, i3, i4, -⟩ := k7
    exact ⟨tc, f, g0, w0, h3, h4, (hf (20, 0) (zad1 (by decide)) (zad1 (by decide))).trans i3, (hf (21, 0) (zad1 (by decide)) (zad1 (by decide))).trans i4, h5⟩
  · simp only [xJo, q25] at k9
    exact xJo.fr (I := zup I 7 v) (A := zup A 21 g) k9 (hf (9, 0) (zad1 (by decide)) (zad1 (by decide))) (hf (14, 0) (zad1 (by decide)) (zad1 (by decide))) (hf (15, 0) (zad1 (by decide)) (zad1 (by decide))) (hf (16, 0) (zad1 (by decide)) (zad1 (by decide))) (hf (17, 0) (zad1 (by decide)) (zad1 (by decide))) (fun e => hf (18, e) (zad1 (by decide)) (zad1 (by decide)))
def sp_feed (I : zSI) (A : zSA) (L : zSL) (n : Int32) (b : Int64) : zRes := if ¬ zBw n 1 8 then (-2, I, A, L) else if 160 < I 7 + n then (-4, I, A, L) else (I 7 + n, zup I 7 (I 7 + n), zup A 21 (fdA (A 21) b (zN (I 7)) (zN n)), L)
set_option maxRecDepth 20000 in
set_option maxHeartbeats 4000000 in
theorem c7_add {fr : Nat} {M : zM} {k : Nat} {tc : Int32} {f : Nat → Int32} (h10 : M (10, 0) = some (.inr (7, [zr (19, 0), zr (20, 0), zr (21, 0), zi (nI k), zi tc]))) (h19 : M (19, 0) = some (.inl (2, 160, .inl f))) (hk : k < 160) (x : Int32) : zCv zX7_add fr 0 0 [zr (10, 0), zi x] M (fun M' => M' = zupd (zupd M (19, 0) (.inl (2, 160, .inl (zup f k x.toInt8.toInt32)))) (10, 0) (.inr (7, [zr (19, 0), zr (20, 0), zr (21, 0), zi (nI (k + 1)), zi tc]))) := by
  refine z_enter (L := [some (zr (10, 0)), some (zi x)]) rfl (by decide +kernel) (Nat.le_of_ble_eq_true rfl) ?_
  have e1 := nI_toInt (n := k) (by omega)
  refine z_al iX7_add_0 rfl ?_
  refine z_gf iX7_add_1 h10 rfl ?_
  refine z_co iX7_add_4 ?_
  refine z_icmp_ge iX7_add_7 (fun h1 => ?_) (fun h1 => ?_)
  · exfalso
    simp only [zi_le, Int32.reduceToInt, e1] at h1
    omega
  · refine z_al iX7_add_10 rfl ?_
    refine z_gf iX7_add_11 h10 rfl ?_
    refine z_al iX7_add_14 rfl ?_
    refine z_gf iX7_add_15 h10 rfl ?_
    refine z_il iX7_add_18 rfl ?_
    refine z_bast iX7_add_19 h19 (show 2 ≤ 19 by decide) e1 hk ?_
    refine z_al iX7_add_20 rfl ?_
    refine z_dup iX7_add_21 ?_
    refine z_gf iX7_add_22 ((zupd_k (Nat.ne_of_beq_eq_false rfl)).trans h10) rfl ?_
    refine z_co iX7_add_25 ?_
    refine z_iadd iX7_add_26 ?_
    refine z_pf iX7_add_27 ((zupd_k (Nat.ne_of_beq_eq_false rfl)).trans h10) (show 2 ≤ 10 by decide) (Nat.le_of_ble_eq_true rfl) trivial ?_
    refine z_vret iX7_add_30 rfl ?_
    refine ⟨rfl, ?_⟩
    rw [nI_succ]
    rfl
/-- the class's tape while it is fed -/
def fdS (M0 M : zM) (f : Nat → Int32) (b : Int64) (T : Nat) (tc : Int32) (i : Nat) : Prop := M (10, 0) = some (.inr (7, [zr (19, 0), zr (20, 0), zr (21, 0), zi (nI (T + i)), zi tc])) ∧ M (19, 0) = some (.inl (2, 160, .inl (fdX f b T i))) ∧ ∀ a : zAd, a ≠ (10, 0) → a ≠ (19, 0) → M a = M0 a
theorem fdS.add {M0 M M' : zM} {f : Nat → Int32} {b : Int64} {T i : Nat} {tc x : Int32} (h : fdS M0 M f b T tc i) (hx : x = (bO b i).toInt32.toInt8.toInt32) (hM : M' = zupd (zupd M (19, 0) (.inl (2, 160, .inl (zup (fdX f b T i) (T + i) x.toInt8.toInt32)))) (10, 0) (.inr (7, [zr (19, 0), zr (20, 0), zr (21, 0), zi (nI (T + i + 1)), zi tc]))) : fdS M0 M' f b T tc (i + 1) := by
  subst hM; subst hx
  refine ⟨zupd_s, (zupd_k (show (19 : Nat) ≠ 10 by decide)).trans ?_, fun a a1 a2 => (zupd_n a1).trans ((zupd_n a2).trans (h.2.2 a a1 a2))⟩
  rw [zupd_s, Int8.toInt8_toInt32, fdX_1]
set_option maxRecDepth 20000 in
set_option maxHeartbeats 4000000 in
theorem l10_feed {TR : zTR} {JR : zJR} {fr : Nat} {M0 : zM} {I : zSI} {A : zSA} {L : zSL} (hX : RepX TR JR M0 I A L) {nn : Int32} {b : Int64} {T N : Nat} {f : Nat → Int32} {tc : Int32} (hn8 : nn.toInt = (N : Int)) (hT : T + N ≤ 160) (hf : 1 ≤ fr) : ∀ (n i : Nat) (M : zM), i + n = N → fdS M0 M f b T tc i → zV zX10_feed fr 0 0 34 (zL [some (zr (2, 0)), some (zi nn), some (zl b), none, some (zi (nI i))]) [] M (fun r M' => ∃ x, r = some (zi x) ∧ x = nI (T + N) ∧ fdS M0 M' f b T tc N) := by
  intro n
  induction n with
  | zero =>
    intro i M hn hS
    have hthis : M (2, 0) = some (.inr (10, xObj I)) := (hS.2.2 _ (by decide) (by decide)).trans hX.1.1
    refine z_il iX10_feed_34 rfl ?_
    refine z_il iX10_feed_36 rfl ?_
    refine z_icmp_ge iX10_feed_37 (fun h1 => ?_) (fun h1 => ?_)
    · refine z_al iX10_feed_62 rfl ?_
      refine z_gf iX10_feed_63 hthis rfl ?_
      refine z_gf iX10_feed_66 hS.1 rfl ?_
      refine z_iret iX10_feed_69 rfl ?_
      exact ⟨_, rfl, by rw [show i = N by omega], by rw [show i = N by omega] at hS; exact hS⟩
    · exfalso
      have e1 := nI_toInt (n := i) (by omega)
      simp only [zi_le, hn8, e1] at h1
      omega
  | succ n ih =>
    intro i M hn hS
    have hthis : M (2, 0) = some (.inr (10, xObj I)) := (hS.2.2 _ (by decide) (by decide)).trans hX.1.1
    refine z_il iX10_feed_34 rfl ?_
    refine z_il iX10_feed_36 rfl ?_
    refine z_icmp_ge iX10_feed_37 (fun h1 => ?_) (fun h1 => ?_)
    · exfalso
      have e1 := nI_toInt (n := i) (by omega)
      simp only [zi_le, hn8, e1] at h1
      omega
    · refine z_al iX10_feed_40 rfl ?_
      refine z_gf iX10_feed_41 hthis rfl ?_
      refine z_ll iX10_feed_44 rfl ?_
      refine z_co iX10_feed_45 ?_
      refine z_il iX10_feed_47 rfl ?_
      refine z_imul iX10_feed_49 ?_
      refine z_lshr iX10_feed_50 ?_
      refine z_l2i iX10_feed_51 ?_
      refine z_i2b iX10_feed_52 ?_
      refine z_cv1v (fr' := fr - 1) iX10_feed_53 zmX7_add hS.1 (c7_add hS.1 hS.2.1 (show T + i < 160 by omega) _) (by omega) (Nat.le_of_ble_eq_true rfl) (fun M1 hq => ?_)
      have hS := hS.add rfl hq
      refine z_in iX10_feed_56 rfl ?_
      refine z_goto iX10_feed_59 ?_
      refine z_loc [some (zr (2, 0)), some (zi nn), some (zl b), none, some (zi (nI (i + 1)))] ⟨rfl, rfl, rfl, ?_, trivial⟩ (ih (i + 1) _ (by omega) hS)
      show some (zi (nI i + 1)) = _
      rw [nI_1]
set_option maxRecDepth 20000 in
set_option maxHeartbeats 4000000 in
theorem px_feed {TR : zTR} {JR : zJR} {fr : Nat} {M : zM} {I : zSI} {A : zSA} {L : zSL} (hf : 2 ≤ fr) (hX : RepX TR JR M I A L) (hV : Val I A L) (n : Int32) (b : Int64) : zCi zX10_feed fr 0 0 [zr (2, 0), zi n, zl b] M (fun x M' => zEX TR JR M x (sp_feed I A L n b) M') := by
  refine z_enter (L := [some (zr (2, 0)), some (zi n), some (zl b), none]) rfl (by decide +kernel) (Nat.le_of_ble_eq_true rfl) ?_
  obtain ⟨tc, f0, g0, w0, a10, a19, a20, a21, hb0⟩ := hX.2.2.2.2.2.2.1
  have h7 := hV.1.2.2.2.2.1
  obtain ⟨h71, h72⟩ := h7
  have e7 : (I 7).toInt = (zN (I 7) : Int) := by have e0 : zN (I 7) = (I 7).toInt.toNat := rfl; omega
  have i7 : I 7 = nI (zN (I 7)) := by rw [← Int32.toInt_inj, nI_toInt (by omega)]; exact e7
  refine z_il iX10_feed_0 rfl ?_
  refine z_co iX10_feed_1 ?_
  refine z_co iX10_feed_2 ?_
  refine z_cs3i (fr' := fr - 1) iX10_feed_4 zmX10_within (c10_within _ _ _) (by omega) (Nat.le_of_ble_eq_true rfl) (fun x M1 hq => ?_)
  obtain ⟨rfl, rfl⟩ := hq
  refine z_ib_ne iX10_feed_7 (fun h1 => ?_) (fun h1 => ?_)
  · refine z_al iX10_feed_13 rfl ?_
    refine z_gf iX10_feed_14 hX.1.1 rfl ?_
    refine z_gf iX10_feed_17 a10 rfl ?_
    refine z_il iX10_feed_20 rfl ?_
    refine z_iadd iX10_feed_21 ?_
    refine z_co iX10_feed_22 ?_
    refine z_icmp_le iX10_feed_25 (fun h2 => ?_) (fun h2 => ?_)
    · refine z_co iX10_feed_31 ?_
      refine z_is iX10_feed_32 ?_
      have hn := zB18 h1
      have hn9 : zN n < 9 := hn.2
      have esum : (I 7 + n).toInt = (I 7).toInt + n.toInt := zadd (by omega) (by omega)
      have hfit : zN (I 7) + zN n ≤ 160 := by
        have z := h2
        simp only [zi_le, zi_lt, Int32.reduceToInt, esum] at z
        omega
      have hsp : nI (zN (I 7) + zN n) = I 7 + n := by
        rw [← Int32.toInt_inj, nI_toInt (by omega), esum]
        omega
      refine z_loc [some (zr (2, 0)), some (zi n), some (zl b), none, some (zi (nI 0))] ⟨rfl, rfl, rfl, rfl, trivial⟩ ?_
      refine (l10_feed (f := f0) (tc := tc) hX hn.1 hfit (by omega) (zN n) 0 _ (by omega) ⟨by rw [Nat.add_zero, ← i7]; exact a10, by rw [fdX_0]; exact a19, fun _ _ _ => rfl⟩).mono (fun r M' ⟨x, hr, hx, hS⟩ => ⟨x, hr, ?_⟩)
      unfold sp_feed
      rw [if_neg (fun q => q h1), if_neg (fun q => by simp only [zi_lt, Int32.reduceToInt, esum] at q; omega)]
      refine ⟨hx.trans hsp, fun a ha => hS.2.2 a (fun q => by rw [q] at ha; exact absurd ha (by decide)) (fun q => by rw [q] at ha; exact absurd ha (by decide)), hX.tape hS.2.2 ⟨tc, _, by rw [← hsp]; exact hS.1, hS.2.1, fun j hj => ?_⟩⟩
      unfold fdX fdA
      by_cases z : zN (I 7) ≤ j ∧ j < zN (I 7) + zN n
      · rw [if_pos z, if_pos z]
        exact ⟨bO_by _, bO_rg _⟩
      · rw [if_neg z, if_neg z]
        exact hb0 j (by omega)
    · refine z_co iX10_feed_28 ?_
      refine z_iret iX10_feed_30 rfl ?_
      refine ⟨_, rfl, ?_⟩
      unfold sp_feed
      first | (rw [if_neg (fun q => q h1), if_pos (by simp only [zi_le, zi_lt, Int32.reduceToInt] at h2 ⊢; omega)]; exact zEX.rd hX) | (rw [if_pos h1]; exact zEX.rd hX)
  · refine z_co iX10_feed_10 ?_
    refine z_iret iX10_feed_12 rfl ?_
    refine ⟨_, rfl, ?_⟩
    unfold sp_feed
    first | (rw [if_neg (fun q => q h1), if_pos (by simp only [zi_le, zi_lt, Int32.reduceToInt] at h2 ⊢; omega)]; exact zEX.rd hX) | (rw [if_pos h1]; exact zEX.rd hX)
theorem RepM.cast {M : zM} {I I' J : zSI} {A A' : zSA} {L : zSL} {K : Int64} (h : RepM M I A L J K) (e1 : I = I') (e2 : A = A') : RepM M I' A' L J K := by
  subst e1; subst e2; exact h
set_option maxRecDepth 20000 in
set_option maxHeartbeats 4000000 in
theorem l11_feed {fr : Nat} {M0 : zM} {I J : zSI} {A : zSA} {L : zSL} {K : Int64} {nn : Int32} {b : Int64} {T N : Nat} (hn8 : nn.toInt = (N : Int)) (hT : T + N ≤ 160)  : ∀ (n i : Nat) (M : zM), i + n = N → RepM M (zup I 7 (nI (T + i))) (zup A 21 (fdA (A 21) b T i)) L J K → (∀ a : zAd, a.1 < 40 → M a = M0 a) → zV zX11_feed fr 0 0 31 (zL [some (zr (40, 0)), some (zi nn), some (zl b), none, some (zi (nI i))]) [] M (fun r M' => ∃ x, r = some (zi x) ∧ x = nI (T + N) ∧ (∀ a : zAd, a.1 < 40 → M' a = M0 a) ∧ RepM M' (zup I 7 (nI (T + N))) (zup A 21 (fdA (A 21) b T N)) L J K) := by
  intro n
  induction n with
  | zero =>
    intro i M hn hR hfr
    refine z_il iX11_feed_31 rfl ?_
    refine z_il iX11_feed_33 rfl ?_
    refine z_icmp_ge iX11_feed_34 (fun h1 => ?_) (fun h1 => ?_)
    · refine z_al iX11_feed_74 rfl ?_
      refine z_gf iX11_feed_75 hR.1 rfl ?_
      refine z_iret iX11_feed_78 rfl ?_
      exact ⟨_, rfl, by rw [show i = N by omega]; rfl, hfr, by rw [show i = N by omega] at hR; exact hR⟩
    · exfalso
      have e1 := nI_toInt (n := i) (by omega)
      simp only [zi_le, hn8, e1] at h1
      omega
  | succ n ih =>
    intro i M hn hR hfr
    refine z_il iX11_feed_31 rfl ?_
    refine z_il iX11_feed_33 rfl ?_
    refine z_icmp_ge iX11_feed_34 (fun h1 => ?_) (fun h1 => ?_)
    · exfalso
      have e1 := nI_toInt (n := i) (by omega)
      simp only [zi_le, hn8, e1] at h1
      omega
    · refine z_al iX11_feed_37 rfl ?_
      refine z_gf iX11_feed_38 hR.1 rfl ?_
      refine z_al iX11_feed_41 rfl ?_
      refine z_gf iX11_feed_42 hR.1 rfl ?_
      refine z_ll iX11_feed_45 rfl ?_
      refine z_co iX11_feed_46 ?_
      refine z_il iX11_feed_48 rfl ?_
      refine z_imul iX11_feed_50 ?_
      refine z_lshr iX11_feed_51 ?_
      refine z_cl iX11_feed_52 ?_
      refine z_land iX11_feed_55 ?_
      refine z_l2i iX11_feed_56 ?_
      refine z_iast iX11_feed_57 (hR.2.1 21 (by decide)) (show 2 ≤ 41 by decide) (nI_toInt (n := T + i) (by omega)) (show T + i < 160 by omega) ?_
      refine z_al iX11_feed_58 rfl ?_
      refine z_dup iX11_feed_59 ?_
      refine z_gf iX11_feed_60 ((zupd_k (Nat.ne_of_beq_eq_false rfl)).trans hR.1) rfl ?_
      refine z_co iX11_feed_63 ?_
      refine z_iadd iX11_feed_64 ?_
      refine z_pf iX11_feed_65 ((zupd_k (Nat.ne_of_beq_eq_false rfl)).trans hR.1) (show 2 ≤ 40 by decide) (Nat.le_of_ble_eq_true rfl) trivial ?_
      refine z_in iX11_feed_68 rfl ?_
      refine z_goto iX11_feed_71 ?_
      have hR2 := (hR.arr 21 (zup (fdA (A 21) b T i) (T + i) (bO b i &&& 255).toInt32)).obj (I' := zup (zup I 7 (nI (T + i))) 7 (nI (T + i) + 1)) (J' := J) (K' := K) rfl
      refine z_loc [some (zr (40, 0)), some (zi nn), some (zl b), none, some (zi (nI (i + 1)))] ⟨rfl, rfl, rfl, ?_, trivial⟩ (ih (i + 1) _ (by omega) (hR2.cast (by rw [zup_u, ← nI_succ]; rfl) (by rw [fdA_1, zup_u])) (fun a ha => (zupd_k (by omega)).trans ((zupd_k (by omega)).trans (hfr a ha))))
      show some (zi (nI i + 1)) = _
      rw [nI_1]
theorem zupA_id {A : zSA} {k : Nat} : zup A k (A k) = A := by
  funext j
  unfold zup
  by_cases q : j = k
  · rw [if_pos q, q]
  · rw [if_neg q]
set_option maxRecDepth 20000 in
set_option maxHeartbeats 4000000 in
theorem pm_feed {fr : Nat} {M : zM} {I J : zSI} {A : zSA} {L : zSL} {K : Int64} (hf : 2 ≤ fr) (hR : RepM M I A L J K) (hV : Val I A L) (n : Int32) (b : Int64) : zCi zX11_feed fr 0 0 [zr (40, 0), zi n, zl b] M (fun x M' => zEM M x (sp_feed I A L n b) M') := by
  refine z_enter (L := [some (zr (40, 0)), some (zi n), some (zl b), none]) rfl (by decide +kernel) (Nat.le_of_ble_eq_true rfl) ?_
  have h7 := hV.1.2.2.2.2.1
  obtain ⟨h71, h72⟩ := h7
  have e7 : (I 7).toInt = (zN (I 7) : Int) := by have e0 : zN (I 7) = (I 7).toInt.toNat := rfl; omega
  have i7 : I 7 = nI (zN (I 7)) := by rw [← Int32.toInt_inj, nI_toInt (by omega)]; exact e7
  refine z_il iX11_feed_0 rfl ?_
  refine z_co iX11_feed_1 ?_
  refine z_co iX11_feed_2 ?_
  refine z_cs3i (fr' := fr - 1) iX11_feed_4 zmX11_in (c11_in _ _ _) (by omega) (Nat.le_of_ble_eq_true rfl) (fun x M1 hq => ?_)
  obtain ⟨rfl, rfl⟩ := hq
  refine z_ib_ne iX11_feed_7 (fun h1 => ?_) (fun h1 => ?_)
  · refine z_al iX11_feed_13 rfl ?_
    refine z_gf iX11_feed_14 hR.1 rfl ?_
    refine z_il iX11_feed_17 rfl ?_
    refine z_iadd iX11_feed_18 ?_
    refine z_co iX11_feed_19 ?_
    refine z_icmp_le iX11_feed_22 (fun h2 => ?_) (fun h2 => ?_)
    · refine z_co iX11_feed_28 ?_
      refine z_is iX11_feed_29 ?_
      have hn := zB18 h1
      have hn9 : zN n < 9 := hn.2
      have esum : (I 7 + n).toInt = (I 7).toInt + n.toInt := zadd (by omega) (by omega)
      have hfit : zN (I 7) + zN n ≤ 160 := by
        have z := h2
        simp only [zi_le, zi_lt, Int32.reduceToInt, esum] at z
        omega
      have hsp : nI (zN (I 7) + zN n) = I 7 + n := by
        rw [← Int32.toInt_inj, nI_toInt (by omega), esum]
        omega
      refine z_loc [some (zr (40, 0)), some (zi n), some (zl b), none, some (zi (nI 0))] ⟨rfl, rfl, rfl, rfl, trivial⟩ ?_
      refine (l11_feed (I := I) (J := J) (A := A) (L := L) (K := K) (b := b) hn.1 hfit (zN n) 0 _ (by omega) (by rw [Nat.add_zero, ← i7, fdA_0, show zup I 7 (I 7) = I from zup_id, zupA_id]; exact hR) (fun _ _ => rfl)).mono (fun r M' ⟨x, hr, hx, hfr, hR2⟩ => ⟨x, hr, ?_⟩)
      unfold sp_feed
      rw [if_neg (fun q => q h1), if_neg (fun q => by simp only [zi_lt, Int32.reduceToInt, esum] at q; omega)]
      rw [hsp] at hR2
      exact ⟨hx.trans hsp, hfr, _, J, K, fun _ _ => rfl, hR2⟩
    · refine z_co iX11_feed_25 ?_
      refine z_iret iX11_feed_27 rfl ?_
      refine ⟨_, rfl, ?_⟩
      unfold sp_feed
      first | (rw [if_neg (fun q => q h1), if_pos (by simp only [zi_le, zi_lt, Int32.reduceToInt] at h2 ⊢; omega)]; exact zEM.rd hR) | (rw [if_pos h1]; exact zEM.rd hR)
  · refine z_co iX11_feed_10 ?_
    refine z_iret iX11_feed_12 rfl ?_
    refine ⟨_, rfl, ?_⟩
    unfold sp_feed
    first | (rw [if_neg (fun q => q h1), if_pos (by simp only [zi_le, zi_lt, Int32.reduceToInt] at h2 ⊢; omega)]; exact zEM.rd hR) | (rw [if_pos h1]; exact zEM.rd hR)
theorem zp_feed {TR : zTR} {JR : zJR} (n : Int32) (b : Int64) : zPI (zInv TR JR) zX10_feed zX11_feed 0 0 [zi n, zl b] :=
  zPI_of (fun I A L => sp_feed I A L n b) (fun _ _ _ _ _ hf hX hV => px_feed (by omega) hX hV n b) (fun _ _ _ _ _ _ _ hf hR hV => pm_feed (by omega) hR hV n b) (fun I A L hV => by
    show Val (sp_feed I A L n b).2.1 (sp_feed I A L n b).2.2.1 (sp_feed I A L n b).2.2.2
    unfold sp_feed
    by_cases c1 : ¬ zBw n 1 8
    · rw [if_pos c1]; exact hV
    · rw [if_neg c1]
      by_cases c2 : 160 < I 7 + n
      · rw [if_pos c2]; exact hV
      · rw [if_neg c2]
        have hn := Decidable.of_not_not c1
        obtain ⟨z1, z2⟩ := hn
        obtain ⟨h1, h2⟩ := hV
        obtain ⟨g1, g2⟩ := h1.2.2.2.2.1
        rw [zi_le] at z1 z2
        rw [zi_lt] at c2
        have esum : (I 7 + n).toInt = (I 7).toInt + n.toInt := zadd (by simp only [Int32.reduceToInt] at *; omega) (by simp only [Int32.reduceToInt] at *; omega)
        refine ⟨⟨h1.1, h1.2.1, h1.2.2.1, h1.2.2.2.1, ?_, h1.2.2.2.2.2⟩, h2⟩
        show zRg (I 7 + n) 0 160
        unfold zRg
        rw [esum] at c2 ⊢
        simp only [Int32.reduceToInt] at *
        omega)
