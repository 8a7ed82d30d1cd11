theorem RepX.st {TR : zTR} {JR : zJR} {M M' : zM} {I : zSI} {A : zSA} {L : zSL} (h : RepX TR JR M I A L) (hf : ∀ a : zAd, a.1 ≠ 12 → a.1 ≠ 13 → a.1 ≠ 22 → M' a = M a) (h12 : ∃ (h : Int32) (f : Nat → Int32), M' (12, 0) = some (.inr (6, [zr (22, 0), zi h])) ∧ M' (22, 0) = some (.inl (0, 64, .inl f))) (h13 : ∃ f : Nat → Int32, M' (13, 0) = some (.inl (0, 6, .inl f))) : RepX TR JR M' I A L := by
  obtain ⟨h1, h2, h3, h4, h5, h6, h7, h8, h9⟩ := h
  refine ⟨h1.fr (fun k g1 g2 => hf (k, 0) (show k ≠ 12 by omega) (show k ≠ 13 by omega) (show k ≠ 22 by omega)), h2.fr (fun e => hf (28, e) (show (28 : Nat) ≠ 12 by decide) (show (28 : Nat) ≠ 13 by decide) (show (28 : Nat) ≠ 22 by decide)) (fun e => hf (29, e) (show (29 : Nat) ≠ 12 by decide) (show (29 : Nat) ≠ 13 by decide) (show (29 : Nat) ≠ 22 by decide)), h3.fr (fun e => hf (30, e) (show (30 : Nat) ≠ 12 by decide) (show (30 : Nat) ≠ 13 by decide) (show (30 : Nat) ≠ 22 by decide)), h4.fr (fun e => hf (31, e) (show (31 : Nat) ≠ 12 by decide) (show (31 : Nat) ≠ 13 by decide) (show (31 : Nat) ≠ 22 by decide)) (fun e => hf (32, e) (show (32 : Nat) ≠ 12 by decide) (show (32 : Nat) ≠ 13 by decide) (show (32 : Nat) ≠ 22 by decide)), h5.fr (fun e => hf (26, e) (show (26 : Nat) ≠ 12 by decide) (show (26 : Nat) ≠ 13 by decide) (show (26 : Nat) ≠ 22 by decide)) (fun e => hf (27, e) (show (27 : Nat) ≠ 12 by decide) (show (27 : Nat) ≠ 13 by decide) (show (27 : Nat) ≠ 22 by decide)), h6.fr (fun e => hf (23, e) (show (23 : Nat) ≠ 12 by decide) (show (23 : Nat) ≠ 13 by decide) (show (23 : Nat) ≠ 22 by decide)) (fun e => hf (24, e) (show (24 : Nat) ≠ 12 by decide) (show (24 : Nat) ≠ 13 by decide) (show (24 : Nat) ≠ 22 by decide)) (fun e => hf (25, e) (show (25 : Nat) ≠ 12 by decide) (show (25 : Nat) ≠ 13 by decide) (show (25 : Nat) ≠ 22 by decide)), h7.fr (hf (10, 0) (show (10 : Nat) ≠ 12 by decide) (show (10 : Nat) ≠ 13 by decide) (show (10 : Nat) ≠ 22 by decide)) (hf (19, 0) (show (19 : Nat) ≠ 12 by decide) (show (19 : Nat) ≠ 13 by decide) (show (19 : Nat) ≠ 22 by decide)) (hf (20, 0) (show (20 : Nat) ≠ 12 by decide) (show (20 : Nat) ≠ 13 by decide) (show (20 : Nat) ≠ 22 by decide)) (hf (21, 0) (show (21 : Nat) ≠ 12 by decide) (show (21 : Nat) ≠ 13 by decide) (show (21 : Nat) ≠ 22 by decide)), ⟨?_, h12, h13⟩, h9.fr (hf (9, 0) (show (9 : Nat) ≠ 12 by decide) (show (9 : Nat) ≠ 13 by decide) (show (9 : Nat) ≠ 22 by decide)) (hf (14, 0) (show (14 : Nat) ≠ 12 by decide) (show (14 : Nat) ≠ 13 by decide) (show (14 : Nat) ≠ 22 by decide)) (hf (15, 0) (show (15 : Nat) ≠ 12 by decide) (show (15 : Nat) ≠ 13 by decide) (show (15 : Nat) ≠ 22 by decide)) (hf (16, 0) (show (16 : Nat) ≠ 12 by decide) (show (16 : Nat) ≠ 13 by decide) (show (16 : Nat) ≠ 22 by decide)) (hf (17, 0) (show (17 : Nat) ≠ 12 by decide) (show (17 : Nat) ≠ 13 by decide) (show (17 : Nat) ≠ 22 by decide)) (fun e => hf (18, e) (show (18 : Nat) ≠ 12 by decide) (show (18 : Nat) ≠ 13 by decide) (show (18 : Nat) ≠ 22 by decide))⟩
  rw [hf (11, 0) (show (11 : Nat) ≠ 12 by decide) (show (11 : Nat) ≠ 13 by decide) (show (11 : Nat) ≠ 22 by decide)]
  exact h8.1
/-- what the names stand for, of a tool -/
def sEnv (A : zSA) (t : Nat) : Nat → Int32 := fun i => if i = 0 then A 6 (zN (A 13 t)) else if i = 1 then A 7 (zN (A 13 t)) else if i = 2 then A 8 (zN (A 13 t)) else if i = 3 then A 4 (zN (A 13 t)) else if i = 4 then A 16 t else A 12 t + A 1 (zN (A 13 t))
/-- the steps of a part -/
def pvW (r1 r2 r3 : pqS) (k : Nat) : List Int32 := if k = 0 then r1.2.2 else if k = 1 then r2.2.2.drop r1.2.2.length else r3.2.2.drop r2.2.2.length
def pvR (r1 r2 r3 : pqS) (env : Nat → Int32) (k : Nat) : Int32 := match pqRun env (pvW r1 r2 r3 k) [] with
  | some (a :: _) => a
  | _ => 0
/-- what a part of the rule comes to for a tool -/
def sVal (I : zSI) (A : zSA) (t k : Nat) : Int32 := pvR (pqPart (tkT (zRow A (zN (I 6))) (zN (A 20 (zN (I 6))))) (-22) (0, false, [])) (pqPart (tkT (zRow A (zN (I 6))) (zN (A 20 (zN (I 6))))) (-23) (pqPart (tkT (zRow A (zN (I 6))) (zN (A 20 (zN (I 6))))) (-22) (0, false, []))) (pqPart (tkT (zRow A (zN (I 6))) (zN (A 20 (zN (I 6))))) (-24) (pqPart (tkT (zRow A (zN (I 6))) (zN (A 20 (zN (I 6))))) (-23) (pqPart (tkT (zRow A (zN (I 6))) (zN (A 20 (zN (I 6))))) (-22) (0, false, [])))) (sEnv A t) k
theorem sVal_of (I : zSI) (A : zSA) (t k : Nat) {r1 r2 r3 : pqS} (h1 : r1 = pqPart (tkT (zRow A (zN (I 6))) (zN (A 20 (zN (I 6))))) (-22) (0, false, [])) (h2 : r2 = pqPart (tkT (zRow A (zN (I 6))) (zN (A 20 (zN (I 6))))) (-23) r1) (h3 : r3 = pqPart (tkT (zRow A (zN (I 6))) (zN (A 20 (zN (I 6))))) (-24) r2) : sVal I A t k = pvR r1 r2 r3 (sEnv A t) k := by
  unfold sVal
  rw [← h1, ← h2, ← h3]
theorem pqStp_e {env env2 : Nat → Int32} (h : ∀ i, i < 6 → env i = env2 i) (x : Int32) (st : List Int32) : pqStp env x st = pqStp env2 x st := by
  unfold pqStp
  by_cases q : -6 ≤ x
  · rw [if_pos q, if_pos q]
    have e1 : pqAt env x = pqAt env2 x := by
      unfold pqAt
      by_cases q2 : 0 ≤ x
      · rw [if_pos q2, if_pos q2]
      · rw [if_neg q2, if_neg q2]
        refine h _ ?_
        simp only [zi_le, Int32.reduceToInt] at q q2
        have e1 : (-1 - x).toInt = -1 - x.toInt := zsub (by simp only [Int32.reduceToInt]; omega) (by simp only [Int32.reduceToInt]; omega)
        have e0 : zN (-1 - x) = (-1 - x).toInt.toNat := rfl
        omega
    rw [e1]
  · rw [if_neg q, if_neg q]
theorem pqRun_e {env env2 : Nat → Int32} (h : ∀ i, i < 6 → env i = env2 i) : ∀ (w st : List Int32), pqRun env w st = pqRun env2 w st
  | [], st => rfl
  | x :: xs, st => by
    unfold pqRun
    rw [pqStp_e h x st]
    cases pqStp env2 x st with
    | none => rfl
    | some st' => exact pqRun_e h xs st'
/-- the steps of a part of a text without fault, and what they come to -/
theorem pvW_ok {N : Nat} {T : Nat → Int32} (hE : pqE N T) {r r1 r2 r3 : pqS} (h1 : r1 = pqPart T (-22) (0, false, [])) (h2 : r2 = pqPart T (-23) r1) (h3 : r3 = pqPart T (-24) r2) (h4 : r = pqExp T (-20) r3) (hb : r.2.1 = false) (env : Nat → Int32) : r.2.2 = r3.2.2 ∧ r3.2.2.length ≤ 160 ∧ r1.2.2.length ≤ r2.2.2.length ∧ r2.2.2.length ≤ r3.2.2.length ∧ (∀ k, k < 3 → pqRun env (pvW r1 r2 r3 k) [] = some [pvR r1 r2 r3 env k]) ∧
    ∀ k, k < 3 → (pvW r1 r2 r3 k).length + (if k = 0 then 0 else if k = 1 then r1.2.2.length else r2.2.2.length) = (if k = 0 then r1.2.2.length else if k = 1 then r2.2.2.length else r3.2.2.length) ∧ ∀ j (hj : j < (pvW r1 r2 r3 k).length) (hj2 : (if k = 0 then 0 else if k = 1 then r1.2.2.length else r2.2.2.length) + j < r3.2.2.length), (pvW r1 r2 r3 k)[j] = r3.2.2[(if k = 0 then 0 else if k = 1 then r1.2.2.length else r2.2.2.length) + j] := by
  rw [h4] at hb
  have hb2 := (pqExp_b hb).1
  obtain ⟨w1, w2, w3, a, b, c, e1, e2, e3, e4, g1, g2, g3⟩ := pqTxt_gen hE env h1 h2 h3 hb2
  have x0 : r.2.2 = r3.2.2 := by
    rw [h4]
    unfold pqExp
    split <;> rfl
  have d2 : r2.2.2.drop r1.2.2.length = w2 := by rw [e2, e1, List.drop_left]
  have d3 : r3.2.2.drop r2.2.2.length = w3 := by rw [e3, e2, List.drop_left]
  have p0 : pvW r1 r2 r3 0 = w1 := e1
  have p1 : pvW r1 r2 r3 1 = w2 := d2
  have p2 : pvW r1 r2 r3 2 = w3 := d3
  refine ⟨x0, by rw [e3]; exact e4, by rw [e1, e2, List.length_append]; omega, by rw [e2, e3, List.length_append (as := w1 ++ w2)]; omega, fun k hk => ?_, fun k hk => ?_⟩
  · rcases (show k = 0 ∨ k = 1 ∨ k = 2 by omega) with rfl | rfl | rfl
    · unfold pvR; rw [p0, g1 [] (by decide)]
    · unfold pvR; rw [p1, g2 [] (by decide)]
    · unfold pvR; rw [p2, g3 [] (by decide)]
  · rcases (show k = 0 ∨ k = 1 ∨ k = 2 by omega) with rfl | rfl | rfl
    · refine ⟨by rw [p0, e1]; rfl, fun j hj hj2 => ?_⟩
      simp only [p0] at hj ⊢
      simp only [e3, if_pos, Nat.zero_add]
      rw [List.getElem_append_left (by rw [List.length_append]; omega), List.getElem_append_left hj]
    · refine ⟨?_, fun j hj hj2 => ?_⟩
      · rw [p1, if_neg (by decide), if_pos rfl, if_neg (by decide), if_pos rfl, e1, e2, List.length_append]
        omega
      · simp only [p1] at hj ⊢
        simp only [e3, e1, if_neg (show ¬ (1 : Nat) = 0 by decide), if_pos]
        rw [List.getElem_append_left (by rw [List.length_append]; omega), List.getElem_append_right (by omega)]
        simp only [Nat.add_sub_cancel_left]
    · refine ⟨?_, fun j hj hj2 => ?_⟩
      · rw [p2, if_neg (by decide), if_neg (by decide), if_neg (by decide), if_neg (by decide), e2, e3, List.length_append (as := w1 ++ w2)]
        omega
      · simp only [p2] at hj ⊢
        simp only [e3, e2, if_neg (show ¬ (2 : Nat) = 0 by decide), if_neg (show ¬ (2 : Nat) = 1 by decide)]
        rw [List.getElem_append_right (by omega)]
        simp only [Nat.add_sub_cancel_left]
set_option maxRecDepth 20000 in
set_option maxHeartbeats 4000000 in
theorem c10_ruleFor {JR : zJR} {fr : Nat} {M : zM} {I : zSI} {A : zSA} {L : zSL} (hf : 6 ≤ fr) (hX : RepX TRc JR M I A L) (h6 : 0 ≤ (I 6).toInt ∧ (I 6).toInt < (I 5).toInt ∧ (I 5).toInt ≤ 6) (hsz : ∀ t : Nat, t < 6 → zRg (A 20 t) 0 160) {t k : Nat} (ht : (t : Int) < (I 1).toInt) (he : 0 ≤ (A 13 t).toInt ∧ (A 13 t).toInt < (I 0).toInt) {pt : Int32} (hp : pt.toInt = (k : Int)) (hk : k < 3) : zCi zX10_ruleFor fr 0 0 [zr (2, 0), zr (30, t), zi pt] M (fun x M' => x = sVal I A t k ∧ (∀ a : zAd, a.1 ≠ 12 → a.1 ≠ 13 → a.1 ≠ 22 → M' a = M a) ∧ RepX TRc JR M' I A L) := by
  refine z_enter (L := [some (zr (2, 0)), some (zr (30, t)), some (zi pt)]) rfl (by decide +kernel) (Nat.le_of_ble_eq_true rfl) ?_
  have htool := hX.2.2.1.1 _ ht
  have hedge := (hX.2.1.1 (zN (A 13 t)) (by have e0 : zN (A 13 t) = (A 13 t).toInt.toNat := rfl; omega)).1
  obtain ⟨-, ⟨h0, fw, hst1, hst2⟩, fn, hnm⟩ := hX.2.2.2.2.2.2.2.1
  have e6 : (I 6).toInt = (zN (I 6) : Int) := by have e0 : zN (I 6) = (I 6).toInt.toNat := rfl; omega
  have hb6 : zBw (I 6) 0 5 := ⟨zi_le.mpr (by simp only [Int32.reduceToInt]; omega), zi_le.mpr (by simp only [Int32.reduceToInt]; omega)⟩
  obtain ⟨f, g, sz, cl, t1, t2, t3, t4⟩ := hX.2.2.2.2.2.1 (zN (I 6)) (by omega)
  obtain ⟨hu, r, r1, r2, r3, q1, q2, q3, q4, q5, q6, q7, q8, q9, q10, q11⟩ := t4 (by omega)
  obtain ⟨z3, z4⟩ := hsz (zN (I 6)) (by omega)
  have e20 : zN (A 20 (zN (I 6))) = (A 20 (zN (I 6))).toInt.toNat := rfl
  have hE := tkT_E (u := zRow A (zN (I 6))) (n := zN (A 20 (zN (I 6)))) (by omega)
  have hsv := sVal_of I A t k q1 q2 q3
  obtain ⟨u1, u2, u3, u4, u5, u6⟩ := pvW_ok hE q1 q2 q3 q4 q5 (sEnv A t)
  have u7 := u6 k hk
  subst q7
  refine z_al iX10_ruleFor_0 rfl ?_
  refine z_al iX10_ruleFor_1 rfl ?_
  refine z_gf iX10_ruleFor_2 hX.1.1 rfl ?_
  refine z_cv1a (fr' := fr - 1) iX10_ruleFor_5 zmX10_textOf hX.1.1 (c10_textOf (by omega) hX _) (by omega) (Nat.le_of_ble_eq_true rfl) (fun x M1 hq => ?_)
  obtain ⟨rfl, rfl⟩ := hq
  rw [if_pos hb6]
  refine z_as iX10_ruleFor_8 ?_
  refine z_alo iX10_ruleFor_9 rfl ?_
  refine z_ifnonnull iX10_ruleFor_10 (fun x1 h1 => ?_) (fun h1 => ?_)
  · cases h1
    refine z_al iX10_ruleFor_15 rfl ?_
    refine z_gf iX10_ruleFor_16 htool rfl ?_
    refine z_as iX10_ruleFor_19 ?_
    refine z_al iX10_ruleFor_21 rfl ?_
    refine z_gf iX10_ruleFor_22 hX.1.1 rfl ?_
    refine z_co iX10_ruleFor_25 ?_
    refine z_al iX10_ruleFor_26 rfl ?_
    refine z_gf iX10_ruleFor_28 hedge rfl ?_
    refine z_iast iX10_ruleFor_31 hnm (show 2 ≤ 13 by decide) (by decide : (0 : Int32).toInt = ((0 : Nat) : Int)) (by decide : 0 < 6) ?_
    refine z_al iX10_ruleFor_32 rfl ?_
    refine z_gf iX10_ruleFor_33 ((zupd_k (Nat.ne_of_beq_eq_false rfl)).trans hX.1.1) rfl ?_
    refine z_co iX10_ruleFor_36 ?_
    refine z_al iX10_ruleFor_37 rfl ?_
    refine z_gf iX10_ruleFor_39 ((zupd_k (Nat.ne_of_beq_eq_false rfl)).trans hedge) rfl ?_
    refine z_iast2 iX10_ruleFor_42 (show 2 ≤ 13 by decide) (by decide : (1 : Int32).toInt = ((1 : Nat) : Int)) (by decide : 1 < 6) ?_
    refine z_al iX10_ruleFor_43 rfl ?_
    refine z_gf iX10_ruleFor_44 ((zupd_k (Nat.ne_of_beq_eq_false rfl)).trans hX.1.1) rfl ?_
    refine z_co iX10_ruleFor_47 ?_
    refine z_al iX10_ruleFor_48 rfl ?_
    refine z_gf iX10_ruleFor_50 ((zupd_k (Nat.ne_of_beq_eq_false rfl)).trans hedge) rfl ?_
    refine z_iast2 iX10_ruleFor_53 (show 2 ≤ 13 by decide) (by decide : (2 : Int32).toInt = ((2 : Nat) : Int)) (by decide : 2 < 6) ?_
    refine z_al iX10_ruleFor_54 rfl ?_
    refine z_gf iX10_ruleFor_55 ((zupd_k (Nat.ne_of_beq_eq_false rfl)).trans hX.1.1) rfl ?_
    refine z_co iX10_ruleFor_58 ?_
    refine z_al iX10_ruleFor_59 rfl ?_
    refine z_gf iX10_ruleFor_61 ((zupd_k (Nat.ne_of_beq_eq_false rfl)).trans hedge) rfl ?_
    refine z_iast2 iX10_ruleFor_64 (show 2 ≤ 13 by decide) (by decide : (3 : Int32).toInt = ((3 : Nat) : Int)) (by decide : 3 < 6) ?_
    refine z_al iX10_ruleFor_65 rfl ?_
    refine z_gf iX10_ruleFor_66 ((zupd_k (Nat.ne_of_beq_eq_false rfl)).trans hX.1.1) rfl ?_
    refine z_co iX10_ruleFor_69 ?_
    refine z_al iX10_ruleFor_70 rfl ?_
    refine z_gf iX10_ruleFor_71 ((zupd_k (Nat.ne_of_beq_eq_false rfl)).trans htool) rfl ?_
    refine z_iast2 iX10_ruleFor_74 (show 2 ≤ 13 by decide) (by decide : (4 : Int32).toInt = ((4 : Nat) : Int)) (by decide : 4 < 6) ?_
    refine z_al iX10_ruleFor_75 rfl ?_
    refine z_gf iX10_ruleFor_76 ((zupd_k (Nat.ne_of_beq_eq_false rfl)).trans hX.1.1) rfl ?_
    refine z_co iX10_ruleFor_79 ?_
    refine z_al iX10_ruleFor_80 rfl ?_
    refine z_cv0i (fr' := fr - 1) iX10_ruleFor_81 zmX9_nominal ((zupd_k (show (30 : Nat) ≠ 13 by decide)).trans htool) (c9_nominal ((zupd_k (show (30 : Nat) ≠ 13 by decide)).trans htool) ((zupd_k (show (28 : Nat) ≠ 13 by decide)).trans hedge)) (by omega) (Nat.le_of_ble_eq_true rfl) (fun x M1 hq => ?_)
    obtain ⟨rfl, rfl⟩ := hq
    refine z_iast2 iX10_ruleFor_84 (show 2 ≤ 13 by decide) (by decide : (5 : Int32).toInt = ((5 : Nat) : Int)) (by decide : 5 < 6) ?_
    refine z_al iX10_ruleFor_85 rfl ?_
    refine z_il iX10_ruleFor_86 rfl ?_
    refine z_al iX10_ruleFor_87 rfl ?_
    refine z_gf iX10_ruleFor_88 ((zupd_k (Nat.ne_of_beq_eq_false rfl)).trans hX.1.1) rfl ?_
    refine z_al iX10_ruleFor_91 rfl ?_
    refine z_gf iX10_ruleFor_92 ((zupd_k (Nat.ne_of_beq_eq_false rfl)).trans hX.1.1) rfl ?_
    refine z_cv3i (fr' := fr - 1) iX10_ruleFor_95 zmX8_valueOf ((zupd_k (show (23 : Nat) ≠ 13 by decide)).trans t1) (c8_valueOf (k := k) (a := if k = 0 then 0 else if k = 1 then r1.2.2.length else r2.2.2.length) (b := if k = 0 then r1.2.2.length else if k = 1 then r2.2.2.length else r3.2.2.length) (v := pvR r1 r2 r3 (sEnv A t) k) (ws := pvW r1 r2 r3 k) (by omega) ((zupd_k (show (23 : Nat) ≠ 13 by decide)).trans t1) ((zupd_k (show (24 : Nat) ≠ 13 by decide)).trans t2) ((zupd_k (show (25 : Nat) ≠ 13 by decide)).trans t3) zupd_s ((zupd_k (show (12 : Nat) ≠ 13 by decide)).trans hst1) ((zupd_k (show (22 : Nat) ≠ 13 by decide)).trans hst2) hp hk (fun z => if_pos z) (fun z => ?_) ?_ ?_ (by rw [Nat.add_comm]; exact u7.1) (fun j hj => ?_) ?_) (by omega) (Nat.le_of_ble_eq_true rfl) (fun x M1 hq => ?_)
    · rcases (show k = 1 ∨ k = 2 by omega) with rfl | rfl
      · exact q9
      · exact q10
    · rcases (show k = 0 ∨ k = 1 ∨ k = 2 by omega) with rfl | rfl | rfl
      · exact q9
      · exact q10
      · exact q11
    · rcases (show k = 0 ∨ k = 1 ∨ k = 2 by omega) with rfl | rfl | rfl
      · show r1.2.2.length ≤ 160; omega
      · show r2.2.2.length ≤ 160; omega
      · show r3.2.2.length ≤ 160; omega
    · have hlt : (if k = 0 then 0 else if k = 1 then r1.2.2.length else r2.2.2.length) + j < r3.2.2.length := by
        have := u7.1
        have h9 : (if k = 0 then r1.2.2.length else if k = 1 then r2.2.2.length else r3.2.2.length) ≤ r3.2.2.length := by
          split
          · omega
          · split <;> omega
        omega
      rw [u7.2 j hj hlt]
      refine (q8 _ (by rw [u1]; exact hlt)).trans ?_
      simp only [u1]
    · rw [pqRun_e (env2 := sEnv A t) (fun i hi => ?_)]
      · exact u5 k hk
      · rcases (show i = 0 ∨ i = 1 ∨ i = 2 ∨ i = 3 ∨ i = 4 ∨ i = 5 by omega) with rfl | rfl | rfl | rfl | rfl | rfl <;> rfl
    refine z_iret iX10_ruleFor_98 rfl ?_
    obtain ⟨hx, hsk⟩ := hq
    refine ⟨_, rfl, hx.trans hsv.symm, fun a a1 a2 a3 => ?_, hX.st (fun a a1 a2 a3 => ?_) ?_ ⟨_, (hsk.2.2.2 (13, 0) (by decide) (by decide)).trans zupd_s⟩⟩
    · rw [hsk.2.2.2 a (fun q => a1 (congrArg Prod.fst q)) (fun q => a3 (congrArg Prod.fst q)), zupd_k a2]
    · rw [hsk.2.2.2 a (fun q => a1 (congrArg Prod.fst q)) (fun q => a3 (congrArg Prod.fst q)), zupd_k a2]
    · obtain ⟨s1, ⟨s2, s3, -⟩, -⟩ := hsk
      exact ⟨_, s2, s1, s3⟩
  · cases h1
