/-- the row of a text, by its first 160 places alone -/
def zCut (u : Nat → Int32) : Nat → Int32 := fun j => if j < 160 then u j else 0
abbrev zRow (A : zSA) (t : Nat) : Nat → Int32 := zCut (fun j => A 19 (160 * t + j))
def TRc : zTR := fun u n f g sz cl => (∀ j : Nat, (j : Int) < n.toInt → 0 ≤ (u j).toInt ∧ (u j).toInt ≤ 255) ∧ ∃ r r1 r2 r3 : pqS, r1 = pqPart (tkT (zCut u) (zN n)) (-22) (0, false, []) ∧ r2 = pqPart (tkT (zCut u) (zN n)) (-23) r1 ∧ r3 = pqPart (tkT (zCut u) (zN n)) (-24) r2 ∧ r = pqExp (tkT (zCut u) (zN n)) (-20) r3 ∧ r.2.1 = false ∧ sz = nI r.2.2.length ∧ cl = 3 ∧ (∀ j (h : j < r.2.2.length), f j = r.2.2[j]) ∧ g 0 = nI r1.2.2.length ∧ g 1 = nI r2.2.2.length ∧ g 2 = nI r3.2.2.length
theorem zCut_c {u v : Nat → Int32} (h : ∀ j, j < 160 → u j = v j) : zCut u = zCut v := by
  funext j
  unfold zCut
  by_cases q : j < 160
  · rw [if_pos q, if_pos q, h j q]
  · rw [if_neg q, if_neg q]
theorem zCut_i {u : Nat → Int32} {j : Nat} (h : j < 160) : zCut u j = u j := if_pos h
theorem TRc.c {u v : Nat → Int32} {n : Int32} {f g : Nat → Int32} {sz cl : Int32} (hn : n.toInt ≤ 160) (h : ∀ j, j < 160 → u j = v j) (h2 : TRc u n f g sz cl) : TRc v n f g sz cl := by
  obtain ⟨h3, h4⟩ := h2
  refine ⟨fun j hj => ?_, ?_⟩
  · rw [← h j (by omega)]; exact h3 j hj
  · rw [← zCut_c h]; exact h4
/-- a text's bytes come behind the others -/
def sA_text (I : zSI) (A : zSA) : zSA := zA2 (zup A 19 (fun j => if 160 * zN (I 5) ≤ j ∧ j < 160 * zN (I 5) + zN (I 7) then A 21 (j - 160 * zN (I 5)) else A 19 j)) 20 (zN (I 5)) (I 7)
/-- its reading -/
def tRd (I : zSI) (A : zSA) (r r1 r2 r3 : pqS) : Prop := r1 = pqPart (tkT (zRow (sA_text I A) (zN (I 5))) (zN (I 7))) (-22) (0, false, []) ∧ r2 = pqPart (tkT (zRow (sA_text I A) (zN (I 5))) (zN (I 7))) (-23) r1 ∧ r3 = pqPart (tkT (zRow (sA_text I A) (zN (I 5))) (zN (I 7))) (-24) r2 ∧ r = pqExp (tkT (zRow (sA_text I A) (zN (I 5))) (zN (I 7))) (-20) r3
def sp_textR (I : zSI) (A : zSA) (L : zSL) (r : pqS) : zRes := if I 5 = 6 then (-4, I, A, L) else if r.2.1 = true then (-100 - nI (tkP (zRow (sA_text I A) (zN (I 5))) (zN (I 7)) r.1), zup I 7 0, sA_text I A, L) else (I 5, zup (zup I 7 0) 5 (I 5 + 1), sA_text I A, L)
def sp_text (I : zSI) (A : zSA) (L : zSL) : zRes := sp_textR I A L (pqExp (tkT (zRow (sA_text I A) (zN (I 5))) (zN (I 7))) (-20) (pqPart (tkT (zRow (sA_text I A) (zN (I 5))) (zN (I 7))) (-24) (pqPart (tkT (zRow (sA_text I A) (zN (I 5))) (zN (I 7))) (-23) (pqPart (tkT (zRow (sA_text I A) (zN (I 5))) (zN (I 7))) (-22) (0, false, [])))))
theorem tRd_of (I : zSI) (A : zSA) : ∃ r r1 r2 r3, tRd I A r r1 r2 r3 ∧ ∀ L, sp_text I A L = sp_textR I A L r := ⟨_, _, _, _, ⟨rfl, rfl, rfl, rfl⟩, fun _ => rfl⟩
theorem zT6 {I : zSI} {A : zSA} {L : zSL} (hV : Val I A L) : (I 5).toInt = (zN (I 5) : Int) ∧ 1 ≤ zN (I 5) ∧ zN (I 5) ≤ 6 ∧ (I 7).toInt = (zN (I 7) : Int) ∧ zN (I 7) ≤ 160 := by
  obtain ⟨g1, g2⟩ := hV.1.2.2.1
  obtain ⟨g3, g4⟩ := hV.1.2.2.2.2.1
  have e0 : zN (I 5) = (I 5).toInt.toNat := rfl
  have e1 : zN (I 7) = (I 7).toInt.toNat := rfl
  omega
theorem zRow_text {I : zSI} {A : zSA} {L : zSL} (hV : Val I A L) {j : Nat} (hj : j < zN (I 7)) : zRow (sA_text I A) (zN (I 5)) j = A 21 j := by
  have h6 := zT6 hV
  refine (zCut_i (show j < 160 by omega)).trans ?_
  unfold sA_text
  rw [zA2_row (by decide), zup_s]
  show (if 160 * zN (I 5) ≤ 160 * zN (I 5) + j ∧ 160 * zN (I 5) + j < 160 * zN (I 5) + zN (I 7) then A 21 (160 * zN (I 5) + j - 160 * zN (I 5)) else A 19 (160 * zN (I 5) + j)) = _
  rw [if_pos (by omega), Nat.add_sub_cancel_left]
theorem RepX.text {JR : zJR} {M M1 M2 : zM} {I I' : zSI} {A : zSA} {L : zSL} {r r1 r2 r3 : pqS} (h : RepX TRc JR M I A L) (hV : Val I A L) (ht : zN (I 5) < 6) (hu : ∀ j, j < zN (I 7) → 0 ≤ (A 21 j).toInt ∧ (A 21 j).toInt ≤ 255) (hR : tRd I A r r1 r2 r3) (hr : riS M M1 (zN (I 5)) (zN (I 7)) (tkT (zRow (sA_text I A) (zN (I 5))) (zN (I 7))) r r1 r2 r3)
    (h2 : M2 (2, 0) = some (.inr (10, xObj I'))) (h10 : ∃ tc, M2 (10, 0) = some (.inr (7, [zr (19, 0), zr (20, 0), zr (21, 0), zi 0, zi tc]))) (hf : ∀ a : zAd, a.1 ≠ 2 → a.1 ≠ 10 → M2 a = M1 a) (hI : ∀ k, k ≠ 5 → k ≠ 7 → I' k = I k) (hI7 : I' 7 = 0) (hI5 : I' 5 = I 5 ∨ (I' 5 = I 5 + 1 ∧ r.2.1 = false)) : RepX TRc JR M2 I' (sA_text I A) L := by
  have h6 := zT6 hV
  have e5 : (I' 5).toInt = (I 5).toInt ∨ ((I' 5).toInt = (I 5).toInt + 1 ∧ r.2.1 = false) := by
    rcases hI5 with q | q
    · exact Or.inl (by rw [q])
    · refine Or.inr ⟨?_, q.2⟩
      rw [q.1, zadd (by simp only [Int32.reduceToInt]; omega) (by simp only [Int32.reduceToInt]; omega)]
      rfl
  obtain ⟨h1, h3, h4, h5, h7, h8, h9, h11, h12⟩ := h
  obtain ⟨⟨a, b, c, i1⟩, ⟨tc, g, w, i2, i3, i4⟩, i5, ⟨f, i6, i7⟩, ⟨e, i8, i9, i10, i11⟩, i12⟩ := hr
  have F : ∀ a : zAd, a.1 ≠ 2 → a.1 ≠ 10 → a.1 ≠ 11 → a.1 ≠ 20 → a.1 ≠ 21 → a ≠ (23, zN (I 5)) → a ≠ (24, zN (I 5)) → a ≠ (25, zN (I 5)) → M2 a = M a := fun a z1 z2 z3 z4 z5 z6 z7 z8 => (hf a z1 z2).trans (i12 a z2 z3 z4 z5 z6 z7 z8)
  have F0 : ∀ k e : Nat, k ≠ 2 → k ≠ 10 → k ≠ 11 → k ≠ 20 → k ≠ 21 → k ≠ 23 → k ≠ 24 → k ≠ 25 → M2 (k, e) = M (k, e) := fun k e z1 z2 z3 z4 z5 z6 z7 z8 => F (k, e) z1 z2 z3 z4 z5 (zad1 z6) (zad1 z7) (zad1 z8)
  have q : ∀ k, k < 30 → k ≠ 19 → k ≠ 20 → A k = sA_text I A k := fun k _ z1 z2 => by
    unfold sA_text
    rw [zA2_row z2, zup_n z1]
  have q0 := q 0 (by decide) (by decide) (by decide); have q1 := q 1 (by decide) (by decide) (by decide); have q2 := q 2 (by decide) (by decide) (by decide); have q3 := q 3 (by decide) (by decide) (by decide); have q4 := q 4 (by decide) (by decide) (by decide); have q5 := q 5 (by decide) (by decide) (by decide); have q6 := q 6 (by decide) (by decide) (by decide); have q7 := q 7 (by decide) (by decide) (by decide); have q8 := q 8 (by decide) (by decide) (by decide); have q9 := q 9 (by decide) (by decide) (by decide); have q10 := q 10 (by decide) (by decide) (by decide); have q11 := q 11 (by decide) (by decide) (by decide); have q12 := q 12 (by decide) (by decide) (by decide); have q13 := q 13 (by decide) (by decide) (by decide); have q14 := q 14 (by decide) (by decide) (by decide); have q15 := q 15 (by decide) (by decide) (by decide); have q16 := q 16 (by decide) (by decide) (by decide); have q17 := q 17 (by decide) (by decide) (by decide); have q18 := q 18 (by decide) (by decide) (by decide); have q21 := q 21 (by decide) (by decide) (by decide); have q22 := q 22 (by decide) (by decide) (by decide); have q23 := q 23 (by decide) (by decide) (by decide); have q24 := q 24 (by decide) (by decide) (by decide); have q25 := q 25 (by decide) (by decide) (by decide); have q26 := q 26 (by decide) (by decide) (by decide); have q27 := q 27 (by decide) (by decide) (by decide); have q28 := q 28 (by decide) (by decide) (by decide); have q29 := q 29 (by decide) (by decide) (by decide)
  have j0 := hI 0 (by decide) (by decide); have j1 := hI 1 (by decide) (by decide); have j8 := hI 8 (by decide) (by decide); have j9 := hI 9 (by decide) (by decide); have j2 := hI 2 (by decide) (by decide); have j3 := hI 3 (by decide) (by decide); have j4 := hI 4 (by decide) (by decide)
  have D := fun (k e : Nat) => F0 k e
  refine ⟨⟨h2, ?_, ?_, ?_, ?_, ?_, ?_⟩, ?_, ?_, ?_, ?_, ?_, ?_, ?_, ?_⟩
  · rw [j0, F0 3 0 (by decide) (by decide) (by decide) (by decide) (by decide) (by decide) (by decide) (by decide)]; exact h1.2.1
  · rw [j1, F0 4 0 (by decide) (by decide) (by decide) (by decide) (by decide) (by decide) (by decide) (by decide)]; exact h1.2.2.1
  · rw [j8, F0 5 0 (by decide) (by decide) (by decide) (by decide) (by decide) (by decide) (by decide) (by decide)]; exact h1.2.2.2.1
  · rw [F0 6 0 (by decide) (by decide) (by decide) (by decide) (by decide) (by decide) (by decide) (by decide)]; exact h1.2.2.2.2.1
  · rw [F0 7 0 (by decide) (by decide) (by decide) (by decide) (by decide) (by decide) (by decide) (by decide)]; exact h1.2.2.2.2.2.1
  · rw [j2, j3, j4, F0 8 0 (by decide) (by decide) (by decide) (by decide) (by decide) (by decide) (by decide) (by decide)]; exact h1.2.2.2.2.2.2
  · simp only [xEd, xEdge, q0, q1, q2, q3, q4, q5, q6, q7, q8, q9, q10, q11, ← j0] at h3
    exact xEd.fr (A := sA_text I A) h3 (fun e => F0 28 e (by decide) (by decide) (by decide) (by decide) (by decide) (by decide) (by decide) (by decide)) (fun e => F0 29 e (by decide) (by decide) (by decide) (by decide) (by decide) (by decide) (by decide) (by decide))
  · simp only [xTo, xTool, q12, q13, q14, q15, q16, q17, q18, ← j1] at h4
    exact xTo.fr (A := sA_text I A) h4 (fun e => F0 30 e (by decide) (by decide) (by decide) (by decide) (by decide) (by decide) (by decide) (by decide))
  · simp only [xMa, xMach, q22, q23, q24, ← j8] at h5
    exact xMa.fr (A := sA_text I A) h5 (fun e => F0 31 e (by decide) (by decide) (by decide) (by decide) (by decide) (by decide) (by decide) (by decide)) (fun e => F0 32 e (by decide) (by decide) (by decide) (by decide) (by decide) (by decide) (by decide) (by decide))
  · simp only [xSh, q26, q27, q28, q29] at h7
    exact xSh.fr (A := sA_text I A) h7 (fun e => F0 26 e (by decide) (by decide) (by decide) (by decide) (by decide) (by decide) (by decide) (by decide)) (fun e => F0 27 e (by decide) (by decide) (by decide) (by decide) (by decide) (by decide) (by decide) (by decide))
  · intro s hs
    by_cases z : s = zN (I 5)
    · subst z
      refine ⟨f, e, _, _, (hf (23, zN (I 5)) (show (23 : Nat) ≠ 2 by decide) (show (23 : Nat) ≠ 10 by decide)).trans i5, (hf (24, zN (I 5)) (show (24 : Nat) ≠ 2 by decide) (show (24 : Nat) ≠ 10 by decide)).trans i6, (hf (25, zN (I 5)) (show (25 : Nat) ≠ 2 by decide) (show (25 : Nat) ≠ 10 by decide)).trans i8, fun hlt => ?_⟩
      have e20 : sA_text I A 20 (zN (I 5)) = I 7 := by simp [sA_text, zA2, zup]
      rw [e20]
      refine ⟨fun j hj => ?_, r, r1, r2, r3, hR.1, hR.2.1, hR.2.2.1, hR.2.2.2, ?_, rfl, rfl, i7, i9, i10, i11⟩
      · have hr2 := zRow_text hV (j := j) (by omega)
        have hr3 : sA_text I A 19 (160 * zN (I 5) + j) = A 21 j := (zCut_i (u := fun j => sA_text I A 19 (160 * zN (I 5) + j)) (show j < 160 by omega)).symm.trans hr2
        show 0 ≤ (sA_text I A 19 (160 * zN (I 5) + j)).toInt ∧ (sA_text I A 19 (160 * zN (I 5) + j)).toInt ≤ 255
        rw [hr3]
        exact hu j (by omega)
      · rcases e5 with q | q
        · omega
        · exact q.2
    · obtain ⟨f', g', sz, cl, k1, k2, k3, k4⟩ := h8 s hs
      have n23 : ((23, s) : zAd) ≠ (23, zN (I 5)) := fun q => z (congrArg Prod.snd q)
      have n24 : ((24, s) : zAd) ≠ (24, zN (I 5)) := fun q => z (congrArg Prod.snd q)
      have n25 : ((25, s) : zAd) ≠ (25, zN (I 5)) := fun q => z (congrArg Prod.snd q)
      refine ⟨f', g', sz, cl, (F (23, s) (show (23 : Nat) ≠ 2 by decide) (show (23 : Nat) ≠ 10 by decide) (show (23 : Nat) ≠ 11 by decide) (show (23 : Nat) ≠ 20 by decide) (show (23 : Nat) ≠ 21 by decide) n23 (zad1 (by decide)) (zad1 (by decide))).trans k1, (F (24, s) (show (24 : Nat) ≠ 2 by decide) (show (24 : Nat) ≠ 10 by decide) (show (24 : Nat) ≠ 11 by decide) (show (24 : Nat) ≠ 20 by decide) (show (24 : Nat) ≠ 21 by decide) (zad1 (by decide)) n24 (zad1 (by decide))).trans k2, (F (25, s) (show (25 : Nat) ≠ 2 by decide) (show (25 : Nat) ≠ 10 by decide) (show (25 : Nat) ≠ 11 by decide) (show (25 : Nat) ≠ 20 by decide) (show (25 : Nat) ≠ 21 by decide) (zad1 (by decide)) (zad1 (by decide)) n25).trans k3, fun hlt => ?_⟩
      have e20 : sA_text I A 20 s = A 20 s := by
        unfold sA_text
        rw [zA2_col z, zup_n (by decide)]
      rw [e20]
      refine TRc.c (hV.2.2.2.2.1 s hs).2 (fun j hj => ?_) (k4 (by omega))
      unfold sA_text
      rw [zA2_row (by decide), zup_s]
      show A 19 (160 * s + j) = if 160 * zN (I 5) ≤ 160 * s + j ∧ 160 * s + j < 160 * zN (I 5) + zN (I 7) then A 21 (160 * s + j - 160 * zN (I 5)) else A 19 (160 * s + j)
      rw [if_neg (by omega)]
  · obtain ⟨tc0, f0, g0, w0, -, k2, -⟩ := h9
    obtain ⟨tc2, h10⟩ := h10
    refine ⟨tc2, f0, g, w, ?_, (F0 19 0 (by decide) (by decide) (by decide) (by decide) (by decide) (by decide) (by decide) (by decide)).trans k2, (hf (20, 0) (show (20 : Nat) ≠ 2 by decide) (show (20 : Nat) ≠ 10 by decide)).trans i3, (hf (21, 0) (show (21 : Nat) ≠ 2 by decide) (show (21 : Nat) ≠ 10 by decide)).trans i4, fun j hj => ?_⟩
    · rw [hI7]; exact h10
    · rw [hI7] at hj
      simp only [Int32.reduceToInt] at hj
      omega
  · obtain ⟨-, k2, k3⟩ := h11
    refine ⟨⟨_, a, b, c, (hf (11, 0) (show (11 : Nat) ≠ 2 by decide) (show (11 : Nat) ≠ 10 by decide)).trans i1⟩, ?_, ?_⟩
    · rw [F0 12 0 (by decide) (by decide) (by decide) (by decide) (by decide) (by decide) (by decide) (by decide), F0 22 0 (by decide) (by decide) (by decide) (by decide) (by decide) (by decide) (by decide) (by decide)]; exact k2
    · rw [F0 13 0 (by decide) (by decide) (by decide) (by decide) (by decide) (by decide) (by decide) (by decide)]; exact k3
  · simp only [xJo, q25, ← j9] at h12
    exact xJo.fr (A := sA_text I A) h12 (F0 9 0 (by decide) (by decide) (by decide) (by decide) (by decide) (by decide) (by decide) (by decide)) (F0 14 0 (by decide) (by decide) (by decide) (by decide) (by decide) (by decide) (by decide) (by decide)) (F0 15 0 (by decide) (by decide) (by decide) (by decide) (by decide) (by decide) (by decide) (by decide)) (F0 16 0 (by decide) (by decide) (by decide) (by decide) (by decide) (by decide) (by decide) (by decide)) (F0 17 0 (by decide) (by decide) (by decide) (by decide) (by decide) (by decide) (by decide) (by decide)) (fun e => F0 18 e (by decide) (by decide) (by decide) (by decide) (by decide) (by decide) (by decide) (by decide))
set_option maxRecDepth 20000 in
set_option maxHeartbeats 4000000 in
theorem c10_textOf {TR : zTR} {JR : zJR} {fr : Nat} {M : zM} {I : zSI} {A : zSA} {L : zSL} (hf : 1 ≤ fr) (hX : RepX TR JR M I A L) (n : Int32) : zCa zX10_textOf fr 0 0 [zr (2, 0), zi n] M (fun x M' => M' = M ∧ x = if zBw n 0 5 then some (23, zN n) else none) := by
  refine z_enter (L := [some (zr (2, 0)), some (zi n)]) rfl (by decide +kernel) (Nat.le_of_ble_eq_true rfl) ?_
  refine z_il iX10_textOf_0 rfl ?_
  refine z_co iX10_textOf_1 ?_
  refine z_co iX10_textOf_2 ?_
  refine z_cs3i (fr' := fr - 1) iX10_textOf_3 zmX10_within (c10_within _ _ _) (by omega) (Nat.le_of_ble_eq_true rfl) (fun x M1 hq => ?_)
  obtain ⟨rfl, rfl⟩ := hq
  refine z_ib_eq iX10_textOf_6 (fun h1 => ?_) (fun h1 => ?_)
  · refine z_null iX10_textOf_18 ?_
    refine z_aret iX10_textOf_19 rfl ?_
    first | exact ⟨_, rfl, rfl, (if_pos h1).symm⟩ | exact ⟨_, rfl, rfl, (if_neg h1).symm⟩
  · refine z_al iX10_textOf_9 rfl ?_
    refine z_gf iX10_textOf_10 hX.1.1 rfl ?_
    refine z_il iX10_textOf_13 rfl ?_
    refine z_aald iX10_textOf_14 hX.1.2.2.2.2.1 ⟨by decide, by decide⟩ (zBn h1).1 (zBn h1).2 ?_
    refine z_goto iX10_textOf_15 ?_
    refine z_aret iX10_textOf_19 rfl ?_
    first | exact ⟨_, rfl, rfl, (if_pos h1).symm⟩ | exact ⟨_, rfl, rfl, (if_neg h1).symm⟩
set_option maxRecDepth 20000 in
set_option maxHeartbeats 4000000 in
theorem c7_empty {fr : Nat} {M : zM} {sz tc : Int32} (h10 : M (10, 0) = some (.inr (7, [zr (19, 0), zr (20, 0), zr (21, 0), zi sz, zi tc]))) : zCv zX7_empty fr 0 0 [zr (10, 0)] M (fun M' => M' = zupd M (10, 0) (.inr (7, [zr (19, 0), zr (20, 0), zr (21, 0), zi 0, zi tc]))) := by
  refine z_enter (L := [some (zr (10, 0))]) rfl (by decide +kernel) (Nat.le_of_ble_eq_true rfl) ?_
  refine z_al iX7_empty_0 rfl ?_
  refine z_co iX7_empty_1 ?_
  refine z_pf iX7_empty_2 h10 (show 2 ≤ 10 by decide) (Nat.le_of_ble_eq_true rfl) trivial ?_
  refine z_vret iX7_empty_5 rfl ?_
  exact ⟨rfl, rfl⟩
set_option maxRecDepth 20000 in
set_option maxHeartbeats 4000000 in
theorem px_text {JR : zJR} {fr : Nat} {M : zM} {I : zSI} {A : zSA} {L : zSL} (hf : 50 ≤ fr) (hX : RepX TRc JR M I A L) (hV : Val I A L) : zCi zX10_text fr 0 0 [zr (2, 0)] M (fun x M' => zEX TRc JR M x (sp_text I A L) M') := by
  refine z_enter (L := [some (zr (2, 0))]) rfl (by decide +kernel) (Nat.le_of_ble_eq_true rfl) ?_
  have h6 := zT6 hV
  obtain ⟨tc, f0, g0, w0, a10, a19, a20, a21, hb0⟩ := hX.2.2.2.2.2.2.1
  obtain ⟨⟨ot, b0, b1, b2, a11⟩, -, -⟩ := hX.2.2.2.2.2.2.2.1
  have e7 : I 7 = nI (zN (I 7)) := by
    rw [← Int32.toInt_inj, nI_toInt (by omega)]
    exact h6.2.2.2.1
  obtain ⟨r, r1, r2, r3, hR, hsp⟩ := tRd_of I A
  have hu0 : ∀ j, j < zN (I 7) → 0 ≤ (A 21 j).toInt ∧ (A 21 j).toInt ≤ 255 := fun j hj => (hb0 j (by omega)).2
  have hb : ∀ j, j < zN (I 7) → f0 j = (zRow (sA_text I A) (zN (I 5)) j).toInt8.toInt32 := fun j hj => by
    rw [zRow_text hV hj]
    exact (hb0 j (by omega)).1
  have hu2 : ∀ j, j < zN (I 7) → 0 ≤ (zRow (sA_text I A) (zN (I 5)) j).toInt ∧ (zRow (sA_text I A) (zN (I 5)) j).toInt ≤ 255 := fun j hj => by
    rw [zRow_text hV hj]
    exact hu0 j hj
  have hP := tkP_le (u := zRow (sA_text I A) (zN (I 5))) (n := zN (I 7)) r.1
  refine z_al iX10_text_0 rfl ?_
  refine z_gf iX10_text_1 hX.1.1 rfl ?_
  refine z_co iX10_text_4 ?_
  refine z_icmp_lt iX10_text_6 (fun h1 => ?_) (fun h1 => ?_)
  · have h5 : zBw (I 5) 0 5 := by
      constructor <;> simp only [zi_le, zi_lt, Int32.reduceToInt] at h1 ⊢ <;> omega
    have ht6 : zN (I 5) < 6 := by
      have h9 := h5.2
      simp only [zi_le, Int32.reduceToInt] at h9
      omega
    obtain ⟨f1, e1, sz, cl, a23, a24, a25, -⟩ := hX.2.2.2.2.2.1 (zN (I 5)) ht6
    refine z_al iX10_text_12 rfl ?_
    refine z_gf iX10_text_13 hX.1.1 rfl ?_
    refine z_al iX10_text_16 rfl ?_
    refine z_al iX10_text_17 rfl ?_
    refine z_gf iX10_text_18 hX.1.1 rfl ?_
    refine z_cv1a (fr' := fr - 1) iX10_text_21 zmX10_textOf hX.1.1 (c10_textOf (by omega) hX _) (by omega) (Nat.le_of_ble_eq_true rfl) (fun x M1 hq => ?_)
    obtain ⟨rfl, rfl⟩ := hq
    rw [if_pos h5]
    refine z_cv1i (fr' := fr - 1) iX10_text_24 zmX3_readInto a11 (c3_readInto (u := zRow (sA_text I A) (zN (I 5))) (N := zN (I 7)) (t := zN (I 5)) hR.1 hR.2.1 hR.2.2.1 hR.2.2.2 (by omega) (by rw [← e7]; exact a10) a20 a21 a19 (by omega) hb hu2 (by exact a11) (by exact a23) a24 a25) (by omega) (Nat.le_of_ble_eq_true rfl) (fun x M1 hq => ?_)
    obtain ⟨hx, hri⟩ := hq
    have hri0 := hri
    have h2M : M1 (2, 0) = some (.inr (10, xObj I)) := (hri.2.2.2.2.2 (2, 0) (show (2 : Nat) ≠ 10 by decide) (show (2 : Nat) ≠ 11 by decide) (show (2 : Nat) ≠ 20 by decide) (show (2 : Nat) ≠ 21 by decide) (zad1 (by decide)) (zad1 (by decide)) (zad1 (by decide))).trans hX.1.1
    obtain ⟨tc2, g2, w2, i2, i3, i4⟩ := hri.2.1
    refine z_is iX10_text_27 ?_
    refine z_al iX10_text_28 rfl ?_
    refine z_gf iX10_text_29 h2M rfl ?_
    refine z_cv0v (fr' := fr - 1) iX10_text_32 zmX7_empty i2 (c7_empty i2) (by omega) (Nat.le_of_ble_eq_true rfl) (fun M1 hq => ?_)
    obtain rfl := hq
    refine z_il iX10_text_35 rfl ?_
    refine z_co iX10_text_36 ?_
    refine z_icmp_eq iX10_text_37 (fun h2 => ?_) (fun h2 => ?_)
    · refine z_al iX10_text_45 rfl ?_
      refine z_dup iX10_text_46 ?_
      refine z_gf iX10_text_47 ((zupd_k (Nat.ne_of_beq_eq_false rfl)).trans h2M) rfl ?_
      refine z_co iX10_text_50 ?_
      refine z_iadd iX10_text_51 ?_
      refine z_pf iX10_text_52 ((zupd_k (Nat.ne_of_beq_eq_false rfl)).trans h2M) (show 2 ≤ 2 by decide) (Nat.le_of_ble_eq_true rfl) trivial ?_
      refine z_al iX10_text_55 rfl ?_
      refine z_gf iX10_text_56 zupd_s rfl ?_
      refine z_co iX10_text_59 ?_
      refine z_isub iX10_text_60 ?_
      refine z_iret iX10_text_61 rfl ?_
      refine ⟨_, rfl, ?_⟩
      rw [hsp]
      unfold sp_textR
      have hne : ¬ I 5 = 6 := fun q => by rw [q] at h1; exact absurd h1 (by decide)
      rw [if_neg hne]
      have hbad : ¬ r.2.1 = true := fun z => by
        have e9 := nI_toInt (n := tkP (zRow (sA_text I A) (zN (I 5))) (zN (I 7)) r.1) (by omega)
        rw [hx, if_pos z] at h2
        rw [h2] at e9
        simp only [Int32.reduceToInt] at e9
        omega
      rw [if_neg hbad]
      refine ⟨zp1 _, fun a ha => ?_, RepX.text (I' := zup (zup I 7 0) 5 (I 5 + 1)) hX hV ht6 hu0 hR hri0 zupd_s ⟨_, (zupd_k (show (10 : Nat) ≠ 2 by decide)).trans zupd_s⟩ (fun a z1 z2 => (zupd_n (fun q => z1 (congrArg Prod.fst q))).trans (zupd_n (fun q => z2 (congrArg Prod.fst q)))) (fun k z1 z2 => (zup_n z1).trans (zup_n z2)) ((zup_n (by decide)).trans zup_s) (Or.inr ⟨zup_s, Bool.eq_false_iff.mpr hbad⟩)⟩
      · have u1 : a ≠ (23, zN (I 5)) := fun q => by rw [q] at ha; exact absurd ha (by omega)
        have u2 : a ≠ (24, zN (I 5)) := fun q => by rw [q] at ha; exact absurd ha (by omega)
        have u3 : a ≠ (25, zN (I 5)) := fun q => by rw [q] at ha; exact absurd ha (by omega)
        rw [zupd_n (fun q => by rw [q] at ha; exact absurd ha (by decide)), zupd_n (fun q => by rw [q] at ha; exact absurd ha (by decide))]
        exact hri0.2.2.2.2.2 a (by omega) (by omega) (by omega) (by omega) u1 u2 u3
      
    · refine z_co iX10_text_40 ?_
      refine z_il iX10_text_42 rfl ?_
      refine z_isub iX10_text_43 ?_
      refine z_iret iX10_text_44 rfl ?_
      refine ⟨_, rfl, ?_⟩
      rw [hsp]
      unfold sp_textR
      have hne : ¬ I 5 = 6 := fun q => by rw [q] at h1; exact absurd h1 (by decide)
      rw [if_neg hne]
      have hbad : r.2.1 = true := Decidable.byContradiction (fun z => h2 (hx.trans (if_neg z)))
      rw [if_pos hbad, hx, if_pos hbad]
      refine ⟨rfl, fun a ha => ?_, RepX.text (I' := zup I 7 0) hX hV ht6 hu0 hR hri0 ((zupd_k (show (2 : Nat) ≠ 10 by decide)).trans h2M) ⟨_, zupd_s⟩ (fun a z1 z2 => zupd_n (fun q => z2 (congrArg Prod.fst q))) (fun k z1 z2 => zup_n z2) zup_s (Or.inl (zup_n (by decide)))⟩
      · have u1 : a ≠ (23, zN (I 5)) := fun q => by rw [q] at ha; exact absurd ha (by omega)
        have u2 : a ≠ (24, zN (I 5)) := fun q => by rw [q] at ha; exact absurd ha (by omega)
        have u3 : a ≠ (25, zN (I 5)) := fun q => by rw [q] at ha; exact absurd ha (by omega)
        rw [zupd_n (fun q => by rw [q] at ha; exact absurd ha (by decide))]
        exact hri0.2.2.2.2.2 a (by omega) (by omega) (by omega) (by omega) u1 u2 u3
      
  · refine z_co iX10_text_9 ?_
    refine z_iret iX10_text_11 rfl ?_
    refine ⟨_, rfl, ?_⟩
    rw [hsp]
    unfold sp_textR
    rw [if_pos (Int32.toInt_inj.mp (by simp only [zi_lt, Int32.reduceToInt] at h1 ⊢; omega))]
    exact zEX.rd hX
