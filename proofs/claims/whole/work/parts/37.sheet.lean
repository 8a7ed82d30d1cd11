def xs (x : Int32) : Option zAd := if zBw x 0 3 then some (26, zN x) else none
theorem xs_n {x : Int32} (h : xs x = none) : ¬ zBw x 0 3 := fun q => by unfold xs at h; rw [if_pos q] at h; cases h
theorem xs_s {x : Int32} {a : zAd} (h : xs x = some a) : zBw x 0 3 ∧ a = (26, zN x) := by
  unfold xs at h
  by_cases q : zBw x 0 3
  · rw [if_pos q] at h; cases h; exact ⟨q, rfl⟩
  · rw [if_neg q] at h; cases h
theorem zN3 {x : Int32} (h : zBw x 0 3) : zN x < 4 := (zBn h).2
theorem RepX.sheet {TR : zTR} {JR : zJR} {M : zM} {I : zSI} {A A' : zSA} {L : zSL} (h : RepX TR JR M I A L) (hV : Val I A L) {s : Nat} (hs : s < 4) {so sz : Int32} {g : Nat → Int32}
    (h1s : A' 26 s = 1 → so = A' 27 s ∧ sz = A' 28 s ∧ ∀ j : Nat, (j : Int) < sz.toInt → g j = A' 29 (40 * s + j)) (h0s : A' 26 s ≠ 1 → so = -1 ∧ sz = 0)
    (hA : ∀ k, k < 30 → (k < 26 ∨ 29 < k) → A' k = A k) (hj : ∀ k, 26 ≤ k → k ≤ 28 → ∀ j, j ≠ s → A' k j = A k j) (hj2 : ∀ j, (j < 40 * s ∨ 40 * s + 40 ≤ j) → A' 29 j = A 29 j) : RepX TR JR (zupd (zupd M (26, s) (.inr (5, [zi so, zi sz, zr (27, s)]))) (27, s) (.inl (0, 40, .inl g))) I A' L := by
  obtain ⟨h1, h2, h3, h4, h5, h6, h7, h8, h9⟩ := h
  have q := fun k h1 h2 => (hA k h1 h2).symm
  have q0 := q 0 (by decide) (by decide); have q1 := q 1 (by decide) (by decide); have q2 := q 2 (by decide) (by decide); have q3 := q 3 (by decide) (by decide); have q4 := q 4 (by decide) (by decide); have q5 := q 5 (by decide) (by decide); have q6 := q 6 (by decide) (by decide); have q7 := q 7 (by decide) (by decide); have q8 := q 8 (by decide) (by decide); have q9 := q 9 (by decide) (by decide); have q10 := q 10 (by decide) (by decide); have q11 := q 11 (by decide) (by decide); have q12 := q 12 (by decide) (by decide); have q13 := q 13 (by decide) (by decide); have q14 := q 14 (by decide) (by decide); have q15 := q 15 (by decide) (by decide); have q16 := q 16 (by decide) (by decide); have q17 := q 17 (by decide) (by decide); have q18 := q 18 (by decide) (by decide); have q19 := q 19 (by decide) (by decide); have q20 := q 20 (by decide) (by decide); have q21 := q 21 (by decide) (by decide); have q22 := q 22 (by decide) (by decide); have q23 := q 23 (by decide) (by decide); have q24 := q 24 (by decide) (by decide); have q25 := q 25 (by decide) (by decide)
  have two : ∀ {k e : Nat}, k ≠ 26 → k ≠ 27 → zupd (zupd M (26, s) (.inr (5, [zi so, zi sz, zr (27, s)]))) (27, s) (.inl (0, 40, .inl g)) (k, e) = M (k, e) := fun a b => (zupd_k b).trans (zupd_k a)
  refine ⟨h1.fr fun k g1 g2 => two (show k ≠ 26 by omega) (show k ≠ 27 by omega), ?_, ?_, ?_, fun s' hs' => ?_, ?_, ?_, h8.fr (two (show (11 : Nat) ≠ 26 by decide) (show (11 : Nat) ≠ 27 by decide)) (two (show (12 : Nat) ≠ 26 by decide) (show (12 : Nat) ≠ 27 by decide)) (two (show (22 : Nat) ≠ 26 by decide) (show (22 : Nat) ≠ 27 by decide)) (two (show (13 : Nat) ≠ 26 by decide) (show (13 : Nat) ≠ 27 by decide)), ?_⟩
  · simp only [xEd, xEdge, q0, q1, q2, q3, q4, q5, q6, q7, q8, q9, q10, q11] at h2
    exact xEd.fr (A := A') h2 (fun e => two (show (28 : Nat) ≠ 26 by decide) (show (28 : Nat) ≠ 27 by decide)) (fun e => two (show (29 : Nat) ≠ 26 by decide) (show (29 : Nat) ≠ 27 by decide))
  · simp only [xTo, xTool, q12, q13, q14, q15, q16, q17, q18] at h3
    exact xTo.fr (A := A') h3 (fun e => two (show (30 : Nat) ≠ 26 by decide) (show (30 : Nat) ≠ 27 by decide))
  · simp only [xMa, xMach, q22, q23, q24] at h4
    exact xMa.fr (A := A') h4 (fun e => two (show (31 : Nat) ≠ 26 by decide) (show (31 : Nat) ≠ 27 by decide)) (fun e => two (show (32 : Nat) ≠ 26 by decide) (show (32 : Nat) ≠ 27 by decide))
  · by_cases z : s' = s
    · subst z
      exact ⟨so, sz, g, (zupd_k (by decide : (26 : Nat) ≠ 27)).trans zupd_s, zupd_s, h1s, h0s⟩
    · obtain ⟨so', sz', f, g1, g2, g3, g4⟩ := h5 s' hs'
      have v := hV.2.2.2.2.2.2.1 s' hs'
      refine ⟨so', sz', f, (zupd_k (by decide : (26 : Nat) ≠ 27)).trans ((zupd_i z).trans g1), (zupd_i z).trans ((zupd_k (by decide : (27 : Nat) ≠ 26)).trans g2), fun i1 => ?_, fun i1 => g4 (by rw [← hj 26 (by decide) (by decide) s' z]; exact i1)⟩
      rw [hj 26 (by decide) (by decide) s' z] at i1
      obtain ⟨i2, i3, i4⟩ := g3 i1
      have i5 := (v.2 i1).2.2
      rw [hj 27 (by decide) (by decide) s' z, hj 28 (by decide) (by decide) s' z]
      refine ⟨i2, i3, fun j i6 => ?_⟩
      rw [hj2 _ (by rw [i3] at i6; omega)]
      exact i4 j i6
  · simp only [xTx, q19, q20] at h6
    exact xTx.fr (A := A') h6 (fun e => two (show (23 : Nat) ≠ 26 by decide) (show (23 : Nat) ≠ 27 by decide)) (fun e => two (show (24 : Nat) ≠ 26 by decide) (show (24 : Nat) ≠ 27 by decide)) (fun e => two (show (25 : Nat) ≠ 26 by decide) (show (25 : Nat) ≠ 27 by decide))
  · simp only [xTa, q21] at h7
    exact xTa.fr (A := A') h7 (two (show (10 : Nat) ≠ 26 by decide) (show (10 : Nat) ≠ 27 by decide)) (two (show (19 : Nat) ≠ 26 by decide) (show (19 : Nat) ≠ 27 by decide)) (two (show (20 : Nat) ≠ 26 by decide) (show (20 : Nat) ≠ 27 by decide)) (two (show (21 : Nat) ≠ 26 by decide) (show (21 : Nat) ≠ 27 by decide))
  · simp only [xJo, q25] at h9
    exact xJo.fr (A := A') h9 (two (show (9 : Nat) ≠ 26 by decide) (show (9 : Nat) ≠ 27 by decide)) (two (show (14 : Nat) ≠ 26 by decide) (show (14 : Nat) ≠ 27 by decide)) (two (show (15 : Nat) ≠ 26 by decide) (show (15 : Nat) ≠ 27 by decide)) (two (show (16 : Nat) ≠ 26 by decide) (show (16 : Nat) ≠ 27 by decide)) (two (show (17 : Nat) ≠ 26 by decide) (show (17 : Nat) ≠ 27 by decide)) (fun e => two (show (18 : Nat) ≠ 26 by decide) (show (18 : Nat) ≠ 27 by decide))
/-- the state behind a sheet's coming -/
def sA_sheet (A : zSA) (s : Nat) (sort n : Int32) : zSA := if 0 ≤ sort then zup (zA2 (zA2 (zA2 A 26 s 1) 27 s sort) 28 s n) 29 (zFill (A 29) (40 * s) (zN n) 0) else zA2 (zA2 (zA2 A 26 s 0) 27 s sort) 28 s n
def sp_sheet (I : zSI) (A : zSA) (L : zSL) (s sort n : Int32) : zRes := if ¬ zBw s 0 3 ∨ ¬ zBw sort (-1) 2 ∨ (0 ≤ sort ∧ 40 < n) then (-2, I, A, L) else if 0 ≤ sort ∧ n < 0 then (-14, I, A, L) else (1, I, sA_sheet A (zN s) sort n, L)
def zTo (so v : Int32) : Int32 := if so = 0 then v.toInt8.toInt32 else if so = 1 then v.toInt16.toInt32 else v
theorem zTo0 {so v : Int32} (h : so = 0) : zTo so v = v.toInt8.toInt32 := if_pos h
theorem zTo1 {so v : Int32} (h : ¬ so = 0) (h2 : so = 1) : zTo so v = v.toInt16.toInt32 := (if_neg h).trans (if_pos h2)
theorem zTo2 {so v : Int32} (h : ¬ so = 0) (h2 : ¬ so = 1) : zTo so v = v := (if_neg h).trans (if_neg h2)
def sp_cell (I : zSI) (A : zSA) (L : zSL) (s i v : Int32) : zRes := if ¬ zBw s 0 3 then (-2, I, A, L) else if A 26 (zN s) = 0 then (-11, I, A, L) else if ¬ zBw i 0 (A 28 (zN s) - 1) then (-12, I, A, L) else (1, I, zA2 A 29 (40 * zN s + zN i) (zTo (A 27 (zN s)) v), L)
set_option maxRecDepth 20000 in
set_option maxHeartbeats 4000000 in
theorem c10_sheetOf {TR : zTR} {JR : zJR} {fr : Nat} {M : zM} {I : zSI} {A : zSA} {L : zSL} (hf : 1 ≤ fr) (hX : RepX TR JR M I A L) (n : Int32) : zCa zX10_sheetOf fr 0 0 [zr (2, 0), zi n] M (fun x M' => M' = M ∧ x = xs n) := by
  refine z_enter (L := [some (zr (2, 0)), some (zi n)]) rfl (by decide +kernel) (Nat.le_of_ble_eq_true rfl) ?_
  refine z_il iX10_sheetOf_0 rfl ?_
  refine z_co iX10_sheetOf_1 ?_
  refine z_co iX10_sheetOf_2 ?_
  refine z_cs3i (fr' := fr - 1) iX10_sheetOf_3 zmX10_within (c10_within _ _ _) (by omega) (Nat.le_of_ble_eq_true rfl) (fun x M1 hq => ?_)
  obtain ⟨rfl, rfl⟩ := hq
  refine z_ib_eq iX10_sheetOf_6 (fun h1 => ?_) (fun h1 => ?_)
  · refine z_null iX10_sheetOf_18 ?_
    refine z_aret iX10_sheetOf_19 rfl ?_
    first | exact ⟨_, rfl, rfl, (if_pos h1).symm⟩ | exact ⟨_, rfl, rfl, (if_neg h1).symm⟩
  · refine z_al iX10_sheetOf_9 rfl ?_
    refine z_gf iX10_sheetOf_10 hX.1.1 rfl ?_
    refine z_il iX10_sheetOf_13 rfl ?_
    refine z_aald iX10_sheetOf_14 hX.1.2.2.2.2.2.1 ⟨by decide, by decide⟩ (zBn h1).1 (zN3 h1) ?_
    refine z_goto iX10_sheetOf_15 ?_
    refine z_aret iX10_sheetOf_19 rfl ?_
    first | exact ⟨_, rfl, rfl, (if_pos h1).symm⟩ | exact ⟨_, rfl, rfl, (if_neg h1).symm⟩
set_option maxRecDepth 20000 in
set_option maxHeartbeats 4000000 in
theorem c11_isSheet {fr : Nat} {M : zM} (hf : 1 ≤ fr) (s : Int32) : zCi zX11_isSheet fr 0 0 [zi s] M (fun x M' => M' = M ∧ x = zbo (zBw s 0 3)) := by
  refine z_enter (L := [some (zi s)]) rfl (by decide +kernel) (Nat.le_of_ble_eq_true rfl) ?_
  refine z_il iX11_isSheet_0 rfl ?_
  refine z_co iX11_isSheet_1 ?_
  refine z_co iX11_isSheet_2 ?_
  refine z_cs3i (fr' := fr - 1) iX11_isSheet_3 zmX11_in (c11_in _ _ _) (by omega) (Nat.le_of_ble_eq_true rfl) (fun x M1 hq => ?_)
  obtain ⟨rfl, rfl⟩ := hq
  refine z_bret iX11_isSheet_6 rfl ?_
  exact ⟨_, rfl, rfl, rfl⟩
set_option maxRecDepth 20000 in
set_option maxHeartbeats 4000000 in
theorem l5_become {fr : Nat} {M : zM} {a h : zAd} {so sz : Int32} {f : Nat → Int32} (hw1 : 2 ≤ a.1) (hw2 : 2 ≤ h.1) (hne : a.1 ≠ h.1) (hthis : M a = some (.inr (5, [zi so, zi sz, zr h])))  : ∀ (n i : Nat), i + n = 40 → zV zX5_become fr 0 0 12 (zL [some (zr a), none, none, some (zi (nI i))]) [] (zupd M h (.inl (0, 40, .inl (zFill f 0 i 0)))) (fun r M' => r = none ∧ M' = zupd M h (.inl (0, 40, .inl (zFill f 0 40 0)))) := by
  intro n
  induction n with
  | zero =>
    intro i  hn 
    refine z_il iX5_become_12 rfl ?_
    refine z_co iX5_become_13 ?_
    refine z_icmp_ge iX5_become_15 (fun h1 => ?_) (fun h1 => ?_)
    · refine z_vret iX5_become_31 rfl ?_
      exact ⟨rfl, by rw [show i = 40 by omega]⟩
    · exact absurd (nI_le (a := 40) (b := i) (by omega) (by omega)) h1
  | succ n ih =>
    intro i  hn 
    refine z_il iX5_become_12 rfl ?_
    refine z_co iX5_become_13 ?_
    refine z_icmp_ge iX5_become_15 (fun h1 => ?_) (fun h1 => ?_)
    · exact absurd h1 (nI_ge (a := i) (b := 40) (by omega) (by decide))
    · refine z_al iX5_become_18 rfl ?_
      refine z_gf iX5_become_19 ((zupd_k hne).trans hthis) rfl ?_
      refine z_il iX5_become_22 rfl ?_
      refine z_co iX5_become_23 ?_
      refine z_iast2 iX5_become_24 hw2 (nI_toInt (by omega)) (show i < 40 by omega) ?_
      refine z_in iX5_become_25 rfl ?_
      refine z_goto iX5_become_28 ?_
      have z1 : zup (zFill f 0 i 0) i 0 = zFill f 0 (i + 1) 0 := by
        have z2 := zFill_1 (f := f) (p := 0) (s := i) (v := 0)
        rwa [Nat.zero_add] at z2
      rw [z1]
      refine z_loc [some (zr a), none, none, some (zi (nI (i + 1)))] ⟨rfl, ?_, trivial⟩ (ih (i + 1) (by omega))
      show some (zi (nI i + 1)) = _
      rw [nI_1]
set_option maxRecDepth 20000 in
set_option maxHeartbeats 4000000 in
theorem c5_become {fr : Nat} {M : zM} {a h : zAd} {so sz : Int32} {f : Nat → Int32} (hw1 : 2 ≤ a.1) (hw2 : 2 ≤ h.1) (hne : a.1 ≠ h.1) (hthis : M a = some (.inr (5, [zi so, zi sz, zr h]))) (hh : M h = some (.inl (0, 40, .inl f))) (hne2 : h.1 ≠ a.1) (s n : Int32) : zCv zX5_become fr 0 0 [zr a, zi s, zi n] M (fun M' => M' = zupd (zupd M a (.inr (5, [zi s, zi n, zr h]))) h (.inl (0, 40, .inl (zFill f 0 40 0)))) := by
  refine z_enter (L := [some (zr a), some (zi s), some (zi n)]) rfl (by decide +kernel) (Nat.le_of_ble_eq_true rfl) ?_
  refine z_al iX5_become_0 rfl ?_
  refine z_il iX5_become_1 rfl ?_
  refine z_pf iX5_become_2 hthis hw1 (Nat.le_of_ble_eq_true rfl) trivial ?_
  refine z_al iX5_become_5 rfl ?_
  refine z_il iX5_become_6 rfl ?_
  refine z_pf2 iX5_become_7 hw1 (Nat.le_of_ble_eq_true rfl) trivial ?_
  refine z_co iX5_become_10 ?_
  refine z_is iX5_become_11 ?_
  refine z_loc [some (zr a), none, none, some (zi (nI 0))] ⟨rfl, rfl, trivial⟩ ?_
  have h9 := l5_become (fr := fr) (M := zupd M a (.inr (5, [zi s, zi n, zr h]))) (f := f) hw1 hw2 hne zupd_s 40 0 (by decide)
  rw [zFill_0, zupd_same (show _ = some (.inl (0, 40, .inl f)) from (zupd_k hne2).trans hh)] at h9
  exact h9
set_option maxRecDepth 20000 in
set_option maxHeartbeats 4000000 in
theorem c5_has {fr : Nat} {M : zM} {a h : zAd} {so sz : Int32} (hy : zRg sz 0 40) (hthis : M a = some (.inr (5, [zi so, zi sz, zr h]))) (p : Int32) : zCi zX5_has fr 0 0 [zr a, zi p] M (fun x M' => M' = M ∧ x = zbo (0 ≤ p.toInt ∧ p.toInt < sz.toInt)) := by
  refine z_enter (L := [some (zr a), some (zi p)]) rfl (by decide +kernel) (Nat.le_of_ble_eq_true rfl) ?_
  refine z_il iX5_has_0 rfl ?_
  refine z_if_lt iX5_has_1 (fun h1 => ?_) (fun h1 => ?_)
  · refine z_co iX5_has_22 ?_
    refine z_zret iX5_has_23 rfl rfl ?_
    refine ⟨_, rfl, rfl, ?_⟩
    obtain ⟨y3, y4⟩ := hy
    by_cases g : 0 ≤ p.toInt ∧ p.toInt < sz.toInt
    · first | exact (zbo_1 g).symm | (exfalso; simp only [true_and, and_true, false_and, and_false, true_or, or_true, false_or, or_false, not_true_eq_false, not_false_eq_true, zN, zBw, zUnd, zCor, zi_eq, zi_le, zi_lt, Int32.reduceToInt, List.length_cons, List.length_nil] at *; omega)
    · first | exact (zbo_0 g).symm | (exfalso; simp only [true_and, and_true, false_and, and_false, true_or, or_true, false_or, or_false, not_true_eq_false, not_false_eq_true, zN, zBw, zUnd, zCor, zi_eq, zi_le, zi_lt, Int32.reduceToInt, List.length_cons, List.length_nil] at *; omega)
  · refine z_il iX5_has_4 rfl ?_
    refine z_al iX5_has_5 rfl ?_
    refine z_gf iX5_has_6 hthis rfl ?_
    refine z_icmp_ge iX5_has_9 (fun h2 => ?_) (fun h2 => ?_)
    · refine z_co iX5_has_22 ?_
      refine z_zret iX5_has_23 rfl rfl ?_
      refine ⟨_, rfl, rfl, ?_⟩
      obtain ⟨y3, y4⟩ := hy
      by_cases g : 0 ≤ p.toInt ∧ p.toInt < sz.toInt
      · first | exact (zbo_1 g).symm | (exfalso; simp only [true_and, and_true, false_and, and_false, true_or, or_true, false_or, or_false, not_true_eq_false, not_false_eq_true, zN, zBw, zUnd, zCor, zi_eq, zi_le, zi_lt, Int32.reduceToInt, List.length_cons, List.length_nil] at *; omega)
      · first | exact (zbo_0 g).symm | (exfalso; simp only [true_and, and_true, false_and, and_false, true_or, or_true, false_or, or_false, not_true_eq_false, not_false_eq_true, zN, zBw, zUnd, zCor, zi_eq, zi_le, zi_lt, Int32.reduceToInt, List.length_cons, List.length_nil] at *; omega)
    · refine z_il iX5_has_12 rfl ?_
      refine z_co iX5_has_13 ?_
      refine z_icmp_ge iX5_has_15 (fun h3 => ?_) (fun h3 => ?_)
      · refine z_co iX5_has_22 ?_
        refine z_zret iX5_has_23 rfl rfl ?_
        refine ⟨_, rfl, rfl, ?_⟩
        obtain ⟨y3, y4⟩ := hy
        by_cases g : 0 ≤ p.toInt ∧ p.toInt < sz.toInt
        · first | exact (zbo_1 g).symm | (exfalso; simp only [true_and, and_true, false_and, and_false, true_or, or_true, false_or, or_false, not_true_eq_false, not_false_eq_true, zN, zBw, zUnd, zCor, zi_eq, zi_le, zi_lt, Int32.reduceToInt, List.length_cons, List.length_nil] at *; omega)
        · first | exact (zbo_0 g).symm | (exfalso; simp only [true_and, and_true, false_and, and_false, true_or, or_true, false_or, or_false, not_true_eq_false, not_false_eq_true, zN, zBw, zUnd, zCor, zi_eq, zi_le, zi_lt, Int32.reduceToInt, List.length_cons, List.length_nil] at *; omega)
      · refine z_co iX5_has_18 ?_
        refine z_goto iX5_has_19 ?_
        refine z_zret iX5_has_23 rfl rfl ?_
        refine ⟨_, rfl, rfl, ?_⟩
        obtain ⟨y3, y4⟩ := hy
        by_cases g : 0 ≤ p.toInt ∧ p.toInt < sz.toInt
        · first | exact (zbo_1 g).symm | (exfalso; simp only [true_and, and_true, false_and, and_false, true_or, or_true, false_or, or_false, not_true_eq_false, not_false_eq_true, zN, zBw, zUnd, zCor, zi_eq, zi_le, zi_lt, Int32.reduceToInt, List.length_cons, List.length_nil] at *; omega)
        · first | exact (zbo_0 g).symm | (exfalso; simp only [true_and, and_true, false_and, and_false, true_or, or_true, false_or, or_false, not_true_eq_false, not_false_eq_true, zN, zBw, zUnd, zCor, zi_eq, zi_le, zi_lt, Int32.reduceToInt, List.length_cons, List.length_nil] at *; omega)
set_option maxRecDepth 20000 in
set_option maxHeartbeats 4000000 in
theorem c5_get {fr : Nat} {M : zM} {a h : zAd} {so sz : Int32} (hy : zRg sz 0 40) (hthis : M a = some (.inr (5, [zi so, zi sz, zr h]))) {f : Nat → Int32} (hh : M h = some (.inl (0, 40, .inl f))) (hf : 1 ≤ fr) (p : Int32) : zCi zX5_get fr 0 0 [zr a, zi p] M (fun x M' => M' = M ∧ x = if 0 ≤ p.toInt ∧ p.toInt < sz.toInt then f (zN p) else 0) := by
  refine z_enter (L := [some (zr a), some (zi p)]) rfl (by decide +kernel) (Nat.le_of_ble_eq_true rfl) ?_
  refine z_al iX5_get_0 rfl ?_
  refine z_il iX5_get_1 rfl ?_
  refine z_cv1i (fr' := fr - 1) iX5_get_2 zmX5_has hthis (c5_has hy hthis _) (by omega) (Nat.le_of_ble_eq_true rfl) (fun x M1 hq => ?_)
  obtain ⟨rfl, rfl⟩ := hq
  refine z_ib_eq iX5_get_5 (fun h1 => ?_) (fun h1 => ?_)
  · refine z_co iX5_get_17 ?_
    refine z_iret iX5_get_18 rfl ?_
    refine ⟨_, rfl, rfl, ?_⟩
    first | exact (if_pos h1).symm | exact (if_neg h1).symm
  · refine z_al iX5_get_8 rfl ?_
    refine z_gf iX5_get_9 hthis rfl ?_
    refine z_il iX5_get_12 rfl ?_
    refine z_iald iX5_get_13 hh (zPn h1.1) (show zN p < 40 by have e0 := zPn h1.1; have e1 := h1.2; have e2 := hy.2; omega) ?_
    refine z_goto iX5_get_14 ?_
    refine z_iret iX5_get_18 rfl ?_
    refine ⟨_, rfl, rfl, ?_⟩
    first | exact (if_pos h1).symm | exact (if_neg h1).symm
set_option maxRecDepth 20000 in
set_option maxHeartbeats 4000000 in
theorem c5_set {fr : Nat} {M : zM} {a h : zAd} {so sz : Int32} (hy : zRg sz 0 40) (hthis : M a = some (.inr (5, [zi so, zi sz, zr h]))) {f : Nat → Int32} (hh : M h = some (.inl (0, 40, .inl f))) (hw2 : 2 ≤ h.1) (hf : 1 ≤ fr) (p v : Int32) (hp : 0 ≤ p.toInt ∧ p.toInt < sz.toInt) : zCv zX5_set fr 0 0 [zr a, zi p, zi v] M (fun M' => M' = zupd M h (.inl (0, 40, .inl (zup f (zN p) (zTo so v))))) := by
  refine z_enter (L := [some (zr a), some (zi p), some (zi v)]) rfl (by decide +kernel) (Nat.le_of_ble_eq_true rfl) ?_
  refine z_al iX5_set_0 rfl ?_
  refine z_il iX5_set_1 rfl ?_
  refine z_cv1i (fr' := fr - 1) iX5_set_2 zmX5_has hthis (c5_has hy hthis _) (by omega) (Nat.le_of_ble_eq_true rfl) (fun x M1 hq => ?_)
  obtain ⟨rfl, rfl⟩ := hq
  refine z_ib_ne iX5_set_5 (fun h1 => ?_) (fun h1 => ?_)
  · refine z_al iX5_set_9 rfl ?_
    refine z_gf iX5_set_10 hthis rfl ?_
    refine z_if_ne iX5_set_13 (fun h2 => ?_) (fun h2 => ?_)
    · refine z_al iX5_set_27 rfl ?_
      refine z_gf iX5_set_28 hthis rfl ?_
      refine z_co iX5_set_31 ?_
      refine z_icmp_ne iX5_set_32 (fun h3 => ?_) (fun h3 => ?_)
      · refine z_al iX5_set_46 rfl ?_
        refine z_gf iX5_set_47 hthis rfl ?_
        refine z_il iX5_set_50 rfl ?_
        refine z_il iX5_set_51 rfl ?_
        refine z_iast iX5_set_52 hh hw2 (zPn h1.1) (show zN p < 40 by have e0 := zPn h1.1; have e1 := h1.2; have e2 := hy.2; omega) ?_
        refine z_vret iX5_set_53 rfl ?_
        refine ⟨rfl, congrArg (fun w => zupd _ h (.inl (0, 40, .inl (zup f (zN p) w)))) ?_⟩
        first | exact (zTo0 h2).symm | exact (zTo1 h2 h3).symm | exact (zTo2 h2 h3).symm
      · refine z_al iX5_set_35 rfl ?_
        refine z_gf iX5_set_36 hthis rfl ?_
        refine z_il iX5_set_39 rfl ?_
        refine z_il iX5_set_40 rfl ?_
        refine z_i2s iX5_set_41 ?_
        refine z_iast iX5_set_42 hh hw2 (zPn h1.1) (show zN p < 40 by have e0 := zPn h1.1; have e1 := h1.2; have e2 := hy.2; omega) ?_
        refine z_goto iX5_set_43 ?_
        refine z_vret iX5_set_53 rfl ?_
        refine ⟨rfl, congrArg (fun w => zupd _ h (.inl (0, 40, .inl (zup f (zN p) w)))) ?_⟩
        first | exact (zTo0 h2).symm | exact (zTo1 h2 h3).symm | exact (zTo2 h2 h3).symm
    · refine z_al iX5_set_16 rfl ?_
      refine z_gf iX5_set_17 hthis rfl ?_
      refine z_il iX5_set_20 rfl ?_
      refine z_il iX5_set_21 rfl ?_
      refine z_i2b iX5_set_22 ?_
      refine z_iast iX5_set_23 hh hw2 (zPn h1.1) (show zN p < 40 by have e0 := zPn h1.1; have e1 := h1.2; have e2 := hy.2; omega) ?_
      refine z_goto iX5_set_24 ?_
      refine z_vret iX5_set_53 rfl ?_
      refine ⟨rfl, congrArg (fun w => zupd _ h (.inl (0, 40, .inl (zup f (zN p) w)))) ?_⟩
      first | exact (zTo0 h2).symm | exact (zTo1 h2 h3).symm | exact (zTo2 h2 h3).symm
  · exact absurd hp h1
set_option maxRecDepth 20000 in
set_option maxHeartbeats 4000000 in
theorem px_sheet {TR : zTR} {JR : zJR} {fr : Nat} {M : zM} {I : zSI} {A : zSA} {L : zSL} (hf : 4 ≤ fr) (hX : RepX TR JR M I A L) (hV : Val I A L) (s : Int32) (sort : Int32) (n : Int32) : zCi zX10_sheet fr 0 0 [zr (2, 0), zi s, zi sort, zi n] M (fun x M' => zEX TR JR M x (sp_sheet I A L s sort n) M') := by
  refine z_enter (L := [some (zr (2, 0)), some (zi s), some (zi sort), some (zi n)]) rfl (by decide +kernel) (Nat.le_of_ble_eq_true rfl) ?_
  refine z_al iX10_sheet_0 rfl ?_
  refine z_il iX10_sheet_1 rfl ?_
  refine z_cv1a (fr' := fr - 1) iX10_sheet_2 zmX10_sheetOf hX.1.1 (c10_sheetOf (by omega) hX _) (by omega) (Nat.le_of_ble_eq_true rfl) (fun x M1 hq => ?_)
  obtain ⟨rfl, rfl⟩ := hq
  refine z_as iX10_sheet_5 ?_
  refine z_alo iX10_sheet_7 rfl ?_
  refine z_ifnull iX10_sheet_9 (fun h1 => ?_) (fun x1 h1 => ?_)
  · refine z_co iX10_sheet_21 ?_
    refine z_iret iX10_sheet_23 rfl ?_
    refine ⟨_, rfl, ?_⟩
    unfold sp_sheet
    first | (have hn := xs_n h1; rw [if_pos (Or.inl hn)]; exact zEX.rd hX) | (have hn : ¬ zBw sort (-1) 2 := h2; rw [if_pos (Or.inr (Or.inl hn))]; exact zEX.rd hX) | (have hs0 : 0 ≤ sort ∧ 40 < n := (by obtain ⟨z1, z2⟩ := h2; simp only [zi_eq, zi_le, zi_lt, Int32.reduceToInt] at *; omega); rw [if_pos (Or.inr (Or.inr hs0))]; exact zEX.rd hX) | (have hs0 : (0 ≤ sort ∧ n < 0) ∧ ¬ (40 < n) := (by obtain ⟨z1, z2⟩ := h2; simp only [zi_eq, zi_le, zi_lt, Int32.reduceToInt] at *; omega); rw [if_neg (fun q => q.elim (fun z => z qh1) (fun z => z.elim (fun z => z h2) (fun z => hs0.2 z.2))), if_pos hs0.1]; exact zEX.rd hX)
  · rw [h1]
    obtain ⟨qh1, rfl⟩ := xs_s h1
    obtain ⟨so, sz, fs, hsheet, hcells, hs1, hs0⟩ := hX.2.2.2.2.1 _ (zN3 qh1)
    refine z_il iX10_sheet_12 rfl ?_
    refine z_co iX10_sheet_13 ?_
    refine z_co iX10_sheet_14 ?_
    refine z_cs3i (fr' := fr - 1) iX10_sheet_15 zmX10_within (c10_within _ _ _) (by omega) (Nat.le_of_ble_eq_true rfl) (fun x M1 hq => ?_)
    obtain ⟨rfl, rfl⟩ := hq
    refine z_ib_ne iX10_sheet_18 (fun h2 => ?_) (fun h2 => ?_)
    · refine z_il iX10_sheet_24 rfl ?_
      refine z_co iX10_sheet_25 ?_
      refine z_icmp_ne iX10_sheet_26 (fun h3 => ?_) (fun h3 => ?_)
      · refine z_il iX10_sheet_38 rfl ?_
        refine z_co iX10_sheet_39 ?_
        refine z_icmp_le iX10_sheet_41 (fun h4 => ?_) (fun h4 => ?_)
        · refine z_il iX10_sheet_47 rfl ?_
          refine z_if_ge iX10_sheet_48 (fun h5 => ?_) (fun h5 => ?_)
          · refine z_al iX10_sheet_54 rfl ?_
            refine z_il iX10_sheet_56 rfl ?_
            refine z_il iX10_sheet_57 rfl ?_
            refine z_cv2v (fr' := fr - 1) iX10_sheet_58 zmX5_become hsheet (c5_become (show 2 ≤ 26 by decide) (show 2 ≤ 27 by decide) (show (26 : Nat) ≠ 27 by decide) hsheet hcells (show (27 : Nat) ≠ 26 by decide) _ _) (by omega) (Nat.le_of_ble_eq_true rfl) (fun M1 hq => ?_)
            obtain rfl := hq
            refine z_co iX10_sheet_61 ?_
            refine z_iret iX10_sheet_62 rfl ?_
            refine ⟨_, rfl, ?_⟩
            unfold sp_sheet
            have hs0 : 0 ≤ sort := by
              obtain ⟨z1, z2⟩ := h2
              simp only [zi_eq, zi_le, zi_lt, Int32.reduceToInt] at *
              omega
            have hn0 : ¬ n < 0 := by simp only [zi_eq, zi_le, zi_lt, Int32.reduceToInt] at *; omega
            have hn4 : ¬ 40 < n := by simp only [zi_eq, zi_le, zi_lt, Int32.reduceToInt] at *; omega
            have hn5 : n.toInt = (zN n : Int) ∧ zN n ≤ 40 := by
              have e0 : zN n = n.toInt.toNat := rfl
              simp only [zi_eq, zi_le, zi_lt, Int32.reduceToInt] at hn0 hn4
              omega
            rw [if_neg (fun q => q.elim (fun z => z qh1) (fun z => z.elim (fun z => z h2) (fun z => hn4 z.2))), if_neg (fun q => hn0 q.2)]
            have e1 : sA_sheet A (zN s) sort n = zup (zA2 (zA2 (zA2 A 26 (zN s) 1) 27 (zN s) sort) 28 (zN s) n) 29 (zFill (A 29) (40 * zN s) (zN n) 0) := if_pos hs0
            show zEX TR JR _ 1 (1, I, sA_sheet A (zN s) sort n, L) _
            rw [e1]
            refine ⟨rfl, zfx (zfx zfx_nil ⟨(by decide : 2 ≤ 26), (by decide : 26 < 40)⟩) ⟨(by decide : 2 ≤ 27), (by decide : 27 < 40)⟩, hX.sheet (A' := zup (zA2 (zA2 (zA2 A 26 (zN s) 1) 27 (zN s) sort) 28 (zN s) n) 29 (zFill (A 29) (40 * zN s) (zN n) 0)) hV (zN3 qh1) (fun i1 => ?_) (fun i1 => ?_) (fun k g1 g2 => ?_) (fun k g1 g2 j g3 => ?_) (fun j g1 => ?_)⟩
            · refine ⟨by simp [zA2, zup], by simp [zA2, zup], fun j hj => ?_⟩
              rw [zup_s, zFill_s (by omega), zFill_s (by omega)]
            · exact absurd (by simp [zA2, zup]) i1
            · exact (zup_n (by omega)).trans ((zA2_row (by omega)).trans ((zA2_row (by omega)).trans (zA2_row (by omega))))
            · rw [zup_n (by omega)]
              exact (zA2_col g3).trans ((zA2_col g3).trans (zA2_col g3))
            · rw [zup_s, zFill_n (by omega)]
          · refine z_co iX10_sheet_51 ?_
            refine z_iret iX10_sheet_53 rfl ?_
            refine ⟨_, rfl, ?_⟩
            unfold sp_sheet
            first | (have hn := xs_n h1; rw [if_pos (Or.inl hn)]; exact zEX.rd hX) | (have hn : ¬ zBw sort (-1) 2 := h2; rw [if_pos (Or.inr (Or.inl hn))]; exact zEX.rd hX) | (have hs0 : 0 ≤ sort ∧ 40 < n := (by obtain ⟨z1, z2⟩ := h2; simp only [zi_eq, zi_le, zi_lt, Int32.reduceToInt] at *; omega); rw [if_pos (Or.inr (Or.inr hs0))]; exact zEX.rd hX) | (have hs0 : (0 ≤ sort ∧ n < 0) ∧ ¬ (40 < n) := (by obtain ⟨z1, z2⟩ := h2; simp only [zi_eq, zi_le, zi_lt, Int32.reduceToInt] at *; omega); rw [if_neg (fun q => q.elim (fun z => z qh1) (fun z => z.elim (fun z => z h2) (fun z => hs0.2 z.2))), if_pos hs0.1]; exact zEX.rd hX)
        · refine z_co iX10_sheet_44 ?_
          refine z_iret iX10_sheet_46 rfl ?_
          refine ⟨_, rfl, ?_⟩
          unfold sp_sheet
          first | (have hn := xs_n h1; rw [if_pos (Or.inl hn)]; exact zEX.rd hX) | (have hn : ¬ zBw sort (-1) 2 := h2; rw [if_pos (Or.inr (Or.inl hn))]; exact zEX.rd hX) | (have hs0 : 0 ≤ sort ∧ 40 < n := (by obtain ⟨z1, z2⟩ := h2; simp only [zi_eq, zi_le, zi_lt, Int32.reduceToInt] at *; omega); rw [if_pos (Or.inr (Or.inr hs0))]; exact zEX.rd hX) | (have hs0 : (0 ≤ sort ∧ n < 0) ∧ ¬ (40 < n) := (by obtain ⟨z1, z2⟩ := h2; simp only [zi_eq, zi_le, zi_lt, Int32.reduceToInt] at *; omega); rw [if_neg (fun q => q.elim (fun z => z qh1) (fun z => z.elim (fun z => z h2) (fun z => hs0.2 z.2))), if_pos hs0.1]; exact zEX.rd hX)
      · refine z_al iX10_sheet_29 rfl ?_
        refine z_co iX10_sheet_31 ?_
        refine z_co iX10_sheet_32 ?_
        refine z_cv2v (fr' := fr - 1) iX10_sheet_33 zmX5_become hsheet (c5_become (show 2 ≤ 26 by decide) (show 2 ≤ 27 by decide) (show (26 : Nat) ≠ 27 by decide) hsheet hcells (show (27 : Nat) ≠ 26 by decide) _ _) (by omega) (Nat.le_of_ble_eq_true rfl) (fun M1 hq => ?_)
        obtain rfl := hq
        refine z_co iX10_sheet_36 ?_
        refine z_iret iX10_sheet_37 rfl ?_
        refine ⟨_, rfl, ?_⟩
        unfold sp_sheet
        subst h3
        rw [if_neg (fun q => q.elim (fun z => z qh1) (fun z => z.elim (fun z => z h2) (fun z => absurd z.1 (by decide)))), if_neg (fun q => absurd q.1 (by decide))]
        have e1 : sA_sheet A (zN s) (-1) n = zA2 (zA2 (zA2 A 26 (zN s) 0) 27 (zN s) (-1)) 28 (zN s) n := if_neg (by decide)
        show zEX TR JR _ 1 (1, I, sA_sheet A (zN s) (-1) n, L) _
        rw [e1]
        refine ⟨rfl, zfx (zfx zfx_nil ⟨(by decide : 2 ≤ 26), (by decide : 26 < 40)⟩) ⟨(by decide : 2 ≤ 27), (by decide : 27 < 40)⟩, hX.sheet (A' := zA2 (zA2 (zA2 A 26 (zN s) 0) 27 (zN s) (-1)) 28 (zN s) n) hV (zN3 qh1) (fun i1 => ?_) (fun i1 => ?_) (fun k g1 g2 => ?_) (fun k g1 g2 j g3 => ?_) (fun j g1 => ?_)⟩
        · have i2 : zA2 (zA2 (zA2 A 26 (zN s) 0) 27 (zN s) (-1)) 28 (zN s) n 26 (zN s) = 0 := by simp [zA2, zup]
          rw [i2] at i1
          exact absurd i1 (by decide)
        · exact ⟨rfl, rfl⟩
        · exact (zA2_row (by omega)).trans ((zA2_row (by omega)).trans (zA2_row (by omega)))
        · exact (zA2_col g3).trans ((zA2_col g3).trans (zA2_col g3))
        · exact congrFun ((zA2_row (by decide)).trans ((zA2_row (by decide)).trans (zA2_row (by decide)))) j
    · refine z_co iX10_sheet_21 ?_
      refine z_iret iX10_sheet_23 rfl ?_
      refine ⟨_, rfl, ?_⟩
      unfold sp_sheet
      first | (have hn := xs_n h1; rw [if_pos (Or.inl hn)]; exact zEX.rd hX) | (have hn : ¬ zBw sort (-1) 2 := h2; rw [if_pos (Or.inr (Or.inl hn))]; exact zEX.rd hX) | (have hs0 : 0 ≤ sort ∧ 40 < n := (by obtain ⟨z1, z2⟩ := h2; simp only [zi_eq, zi_le, zi_lt, Int32.reduceToInt] at *; omega); rw [if_pos (Or.inr (Or.inr hs0))]; exact zEX.rd hX) | (have hs0 : (0 ≤ sort ∧ n < 0) ∧ ¬ (40 < n) := (by obtain ⟨z1, z2⟩ := h2; simp only [zi_eq, zi_le, zi_lt, Int32.reduceToInt] at *; omega); rw [if_neg (fun q => q.elim (fun z => z qh1) (fun z => z.elim (fun z => z h2) (fun z => hs0.2 z.2))), if_pos hs0.1]; exact zEX.rd hX)
theorem zBs {p sz : Int32} (h : zRg sz 0 40) : zBw p 0 (sz - 1) ↔ 0 ≤ p.toInt ∧ p.toInt < sz.toInt := by
  obtain ⟨g1, g2⟩ := h
  show 0 ≤ p ∧ p ≤ sz - 1 ↔ _
  rw [zi_le, zi_le, zsub (by simp only [Int32.reduceToInt]; omega) (by simp only [Int32.reduceToInt]; omega)]
  simp only [Int32.reduceToInt]
  omega
set_option maxRecDepth 20000 in
set_option maxHeartbeats 4000000 in
theorem px_cell {TR : zTR} {JR : zJR} {fr : Nat} {M : zM} {I : zSI} {A : zSA} {L : zSL} (hf : 4 ≤ fr) (hX : RepX TR JR M I A L) (hV : Val I A L) (s : Int32) (i : Int32) (v : Int32) : zCi zX10_cell fr 0 0 [zr (2, 0), zi s, zi i, zi v] M (fun x M' => zEX TR JR M x (sp_cell I A L s i v) M') := by
  refine z_enter (L := [some (zr (2, 0)), some (zi s), some (zi i), some (zi v)]) rfl (by decide +kernel) (Nat.le_of_ble_eq_true rfl) ?_
  refine z_al iX10_cell_0 rfl ?_
  refine z_il iX10_cell_1 rfl ?_
  refine z_cv1a (fr' := fr - 1) iX10_cell_2 zmX10_sheetOf hX.1.1 (c10_sheetOf (by omega) hX _) (by omega) (Nat.le_of_ble_eq_true rfl) (fun x M1 hq => ?_)
  obtain ⟨rfl, rfl⟩ := hq
  refine z_as iX10_cell_5 ?_
  refine z_alo iX10_cell_7 rfl ?_
  refine z_ifnonnull iX10_cell_9 (fun x1 h1 => ?_) (fun h1 => ?_)
  · rw [h1]
    obtain ⟨qh1, rfl⟩ := xs_s h1
    obtain ⟨so, sz, fs, hsheet, hcells, hs1, hs0⟩ := hX.2.2.2.2.1 _ (zN3 qh1)
    refine z_al iX10_cell_15 rfl ?_
    refine z_gf iX10_cell_17 hsheet rfl ?_
    refine z_co iX10_cell_20 ?_
    refine z_icmp_ne iX10_cell_21 (fun h2 => ?_) (fun h2 => ?_)
    · have v1 := hV.2.2.2.2.2.2.1 (zN s) (zN3 qh1)
      have h21 : A 26 (zN s) = 1 := Decidable.byContradiction (fun z => h2 (hs0 z).1)
      have h20 : ¬ A 26 (zN s) = 0 := fun z => by rw [z] at h21; exact absurd h21 (by decide)
      have hsz : zRg sz 0 40 := by rw [(hs1 h21).2.1]; exact (v1.2 h21).2
      have hszb : ∀ p : Int32, zBw p 0 (A 28 (zN s) - 1) ↔ 0 ≤ p.toInt ∧ p.toInt < sz.toInt := fun p => by
        rw [← (hs1 h21).2.1]
        exact zBs hsz
      refine z_al iX10_cell_27 rfl ?_
      refine z_il iX10_cell_29 rfl ?_
      refine z_cv1i (fr' := fr - 1) iX10_cell_30 zmX5_has hsheet (c5_has hsz hsheet _) (by omega) (Nat.le_of_ble_eq_true rfl) (fun x M1 hq => ?_)
      obtain ⟨rfl, rfl⟩ := hq
      refine z_ib_ne iX10_cell_33 (fun h3 => ?_) (fun h3 => ?_)
      · refine z_al iX10_cell_39 rfl ?_
        refine z_il iX10_cell_41 rfl ?_
        refine z_il iX10_cell_42 rfl ?_
        refine z_cv2v (fr' := fr - 1) iX10_cell_43 zmX5_set hsheet (c5_set hsz hsheet hcells (show 2 ≤ 27 by decide) (by omega) _ _ h3) (by omega) (Nat.le_of_ble_eq_true rfl) (fun M1 hq => ?_)
        obtain rfl := hq
        refine z_co iX10_cell_46 ?_
        refine z_iret iX10_cell_47 rfl ?_
        refine ⟨_, rfl, ?_⟩
        unfold sp_cell
        rw [if_neg (fun q => q qh1), if_neg h20, if_neg (fun z => z ((hszb _).mpr h3))]
        have hs2 := hs1 h21
        have e0 := zPn h3.1
        have e1 := h3.2
        have e2 := hsz.2
        refine ⟨rfl, zfx zfx_nil ⟨(by decide : 2 ≤ 27), (by decide : 27 < 40)⟩, ?_⟩
        have h9 := hX.sheet (A' := zA2 A 29 (40 * zN s + zN i) (zTo (A 27 (zN s)) v)) hV (zN3 qh1) (so := so) (sz := sz) (g := zup fs (zN i) (zTo so v)) (fun i1 => ?_) (fun i1 => ?_) (fun k g1 g2 => ?_) (fun k g1 g2 j g3 => ?_) (fun j g1 => ?_)
        · rw [zupd_same hsheet] at h9
          exact h9
        · rw [zA2_row (by decide), zA2_row (by decide)]
          refine ⟨hs2.1, hs2.2.1, fun j hj => ?_⟩
          unfold zA2
          rw [zup_s, ← hs2.1]
          by_cases z : j = zN i
          · rw [z, zup_s, zup_s]
          · rw [zup_n z, zup_n (by omega)]
            exact hs2.2.2 j hj
        · rw [zA2_row (by decide)] at i1
          exact absurd h21 i1
        · exact zA2_row (by omega)
        · exact congrFun (zA2_row (by omega)) j
        · unfold zA2
          rw [zup_s, zup_n (by omega)]
      · refine z_co iX10_cell_36 ?_
        refine z_iret iX10_cell_38 rfl ?_
        refine ⟨_, rfl, ?_⟩
        unfold sp_cell
        rw [if_neg (fun q => q qh1), if_neg h20, if_pos (fun z => h3 ((hszb _).mp z))]
        exact zEX.rd hX
    · have v1 := hV.2.2.2.2.2.2.1 (zN s) (zN3 qh1)
      have h20 : A 26 (zN s) = 0 := v1.1.resolve_right (fun z => by
        have w1 := (v1.2 z).1.1
        have w2 := (hs1 z).1
        rw [← w2, h2] at w1
        exact absurd w1 (by decide))
      refine z_co iX10_cell_24 ?_
      refine z_iret iX10_cell_26 rfl ?_
      refine ⟨_, rfl, ?_⟩
      unfold sp_cell
      rw [if_neg (fun q => q qh1), if_pos h20]
      exact zEX.rd hX
  · refine z_co iX10_cell_12 ?_
    refine z_iret iX10_cell_14 rfl ?_
    refine ⟨_, rfl, ?_⟩
    unfold sp_cell
    have hn := xs_n h1
    rw [if_pos hn]; exact zEX.rd hX
