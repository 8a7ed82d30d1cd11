set_option maxRecDepth 20000 in
set_option maxHeartbeats 4000000 in
theorem c1_fewest {fr : Nat} {M : zM} {N R : Nat} {W : Nat → Nat} {w fw : Nat → Int32} (hjobs : M (9, 0) = some (.inr (1, [zi (nI N), zr (14, 0), zr (15, 0), zr (16, 0), zr (17, 0)]))) (hbest : M (17, 0) = some (.inl (9, 10, .inr (.inr fun r => some (18, r))))) (hwa : M (14, 0) = some (.inl (0, 6, .inl w))) (hw : ∀ j, j < N → w j = nI (W j)) (hWl : ∀ j, j < N → W j < 1024) (hN : N ≤ 6) (hR1 : 1 ≤ R) (hR : R ≤ 9) (hf : 5 ≤ fr) {f b0 : Nat → Int32} (hrow : M (15, 0) = some (.inl (0, 6, .inl f))) (hfw : M (16, 0) = some (.inl (0, 10, .inl fw))) (hb : M (18, R) = some (.inl (0, 6, .inl b0))) (hor : fw R = -2 ∨ okR W N R (fw R) b0) : zCi zX1_fewestChanges fr 0 0 [zr (9, 0), zi (nI R)] M (fun x M' => ∃ rr ff bb, fbS M R M' rr ff bb ∧ (∀ k, k ≠ R → ff k = fw k) ∧ ff R = x ∧ okR W N R x bb) := by
  refine z_enter (L := [some (zr (9, 0)), some (zi (nI R))]) rfl (by decide +kernel) (Nat.le_of_ble_eq_true rfl) ?_
  refine z_il iX1_fewestChanges_0 rfl ?_
  refine z_co iX1_fewestChanges_1 ?_
  refine z_icmp_lt iX1_fewestChanges_2 (fun h1 => ?_) (fun h1 => ?_)
  · exfalso
    first | rw [zi_le, nI_toInt (by omega)] at h1 | rw [zi_lt, nI_toInt (by omega)] at h1
    simp only [Int32.reduceToInt] at h1
    omega
  · refine z_il iX1_fewestChanges_5 rfl ?_
    refine z_co iX1_fewestChanges_6 ?_
    refine z_icmp_le iX1_fewestChanges_8 (fun h2 => ?_) (fun h2 => ?_)
    · refine z_al iX1_fewestChanges_13 rfl ?_
      refine z_gf iX1_fewestChanges_14 hjobs rfl ?_
      refine z_il iX1_fewestChanges_17 rfl ?_
      refine z_iald iX1_fewestChanges_18 hfw (nI_toInt (by omega)) (show R < 10 by omega) ?_
      refine z_co iX1_fewestChanges_19 ?_
      refine z_icmp_ne iX1_fewestChanges_21 (fun h3 => ?_) (fun h3 => ?_)
      · refine z_al iX1_fewestChanges_29 rfl ?_
        refine z_gf iX1_fewestChanges_30 hjobs rfl ?_
        refine z_il iX1_fewestChanges_33 rfl ?_
        refine z_iald iX1_fewestChanges_34 hfw (nI_toInt (by omega)) (show R < 10 by omega) ?_
        refine z_iret iX1_fewestChanges_35 rfl ?_
        first
        | exact ⟨_, rfl, rr, ff, bb, S, hff, rfl, hok⟩
        | (rcases hor with q | q
           · exact absurd q h3
           · exact ⟨_, rfl, f, fw, b0, ⟨fun _ _ _ _ => rfl, hrow, hfw, hb⟩, fun _ _ => rfl, rfl, q⟩)
      · refine z_al iX1_fewestChanges_24 rfl ?_
        refine z_il iX1_fewestChanges_25 rfl ?_
        refine z_cv1v (fr' := fr - 1) iX1_fewestChanges_26 zmX1_findBest hjobs (c1_findBest hjobs hbest hwa hw hWl hN hR1 hR (by omega) hrow hfw hb) (by omega) (Nat.le_of_ble_eq_true rfl) (fun M1 hq => ?_)
        obtain ⟨rr, ff, bb, S, hff, hok⟩ := hq
        refine z_al iX1_fewestChanges_29 rfl ?_
        refine z_gf iX1_fewestChanges_30 ((S.fr (by decide)).trans hjobs) rfl ?_
        refine z_il iX1_fewestChanges_33 rfl ?_
        refine z_iald iX1_fewestChanges_34 S.2.2.1 (nI_toInt (by omega)) (show R < 10 by omega) ?_
        refine z_iret iX1_fewestChanges_35 rfl ?_
        first
        | exact ⟨_, rfl, rr, ff, bb, S, hff, rfl, hok⟩
        | (rcases hor with q | q
           · exact absurd q h3
           · exact ⟨_, rfl, f, fw, b0, ⟨fun _ _ _ _ => rfl, hrow, hfw, hb⟩, fun _ _ => rfl, rfl, q⟩)
    · exfalso
      first | rw [zi_le, nI_toInt (by omega)] at h2 | rw [zi_lt, nI_toInt (by omega)] at h2
      simp only [Int32.reduceToInt] at h2
      omega
set_option maxRecDepth 20000 in
set_option maxHeartbeats 4000000 in
theorem c1_bestAt {fr : Nat} {M : zM} {N R : Nat} {b0 : Nat → Int32} (hjobs : M (9, 0) = some (.inr (1, [zi (nI N), zr (14, 0), zr (15, 0), zr (16, 0), zr (17, 0)]))) (hbest : M (17, 0) = some (.inl (9, 10, .inr (.inr fun r => some (18, r))))) (hb : M (18, R) = some (.inl (0, 6, .inl b0))) (hN : N ≤ 6) (hR1 : 1 ≤ R) (hR : R ≤ 9) (i : Int32) : zCi zX1_bestAt fr 0 0 [zr (9, 0), zi (nI R), zi i] M (fun x M' => M' = M ∧ x = if 0 ≤ i.toInt ∧ i.toInt < (N : Int) then b0 (zN i) else -1) := by
  refine z_enter (L := [some (zr (9, 0)), some (zi (nI R)), some (zi i)]) rfl (by decide +kernel) (Nat.le_of_ble_eq_true rfl) ?_
  have eN := nI_toInt (n := N) (by omega)
  have e0 : zN i = i.toInt.toNat := rfl
  refine z_il iX1_bestAt_0 rfl ?_
  refine z_co iX1_bestAt_1 ?_
  refine z_icmp_lt iX1_bestAt_2 (fun h1 => ?_) (fun h1 => ?_)
  · exfalso
    first | rw [zi_le, nI_toInt (by omega)] at h1 | rw [zi_lt, nI_toInt (by omega)] at h1
    simp only [Int32.reduceToInt] at h1
    omega
  · refine z_il iX1_bestAt_5 rfl ?_
    refine z_co iX1_bestAt_6 ?_
    refine z_icmp_gt iX1_bestAt_8 (fun h2 => ?_) (fun h2 => ?_)
    · exfalso
      first | rw [zi_le, nI_toInt (by omega)] at h2 | rw [zi_lt, nI_toInt (by omega)] at h2
      simp only [Int32.reduceToInt] at h2
      omega
    · refine z_il iX1_bestAt_11 rfl ?_
      refine z_if_lt iX1_bestAt_12 (fun h3 => ?_) (fun h3 => ?_)
      · refine z_co iX1_bestAt_40 ?_
        refine z_iret iX1_bestAt_41 rfl ?_
        refine ⟨_, rfl, rfl, ?_⟩
        first
        | exact (if_pos g).symm
        | (refine (if_neg (fun q => ?_)).symm
           first
           | (simp only [zi_le, zi_lt, eN, Int32.reduceToInt] at h3; omega)
           | (simp only [zi_le, zi_lt, eN, Int32.reduceToInt] at h4; omega)
           | (simp only [zi_le, zi_lt, eN, Int32.reduceToInt] at h5; omega))
      · refine z_il iX1_bestAt_15 rfl ?_
        refine z_al iX1_bestAt_16 rfl ?_
        refine z_gf iX1_bestAt_17 hjobs rfl ?_
        refine z_icmp_ge iX1_bestAt_20 (fun h4 => ?_) (fun h4 => ?_)
        · refine z_co iX1_bestAt_40 ?_
          refine z_iret iX1_bestAt_41 rfl ?_
          refine ⟨_, rfl, rfl, ?_⟩
          first
          | exact (if_pos g).symm
          | (refine (if_neg (fun q => ?_)).symm
             first
             | (simp only [zi_le, zi_lt, eN, Int32.reduceToInt] at h3; omega)
             | (simp only [zi_le, zi_lt, eN, Int32.reduceToInt] at h4; omega)
             | (simp only [zi_le, zi_lt, eN, Int32.reduceToInt] at h5; omega))
        · refine z_il iX1_bestAt_23 rfl ?_
          refine z_co iX1_bestAt_24 ?_
          refine z_icmp_ge iX1_bestAt_26 (fun h5 => ?_) (fun h5 => ?_)
          · refine z_co iX1_bestAt_40 ?_
            refine z_iret iX1_bestAt_41 rfl ?_
            refine ⟨_, rfl, rfl, ?_⟩
            first
            | exact (if_pos g).symm
            | (refine (if_neg (fun q => ?_)).symm
               first
               | (simp only [zi_le, zi_lt, eN, Int32.reduceToInt] at h3; omega)
               | (simp only [zi_le, zi_lt, eN, Int32.reduceToInt] at h4; omega)
               | (simp only [zi_le, zi_lt, eN, Int32.reduceToInt] at h5; omega))
          · have g : 0 ≤ i.toInt ∧ i.toInt < (N : Int) := by
              simp only [zi_le, zi_lt, eN, Int32.reduceToInt] at h3 h4 h5
              omega
            refine z_al iX1_bestAt_29 rfl ?_
            refine z_gf iX1_bestAt_30 hjobs rfl ?_
            refine z_il iX1_bestAt_33 rfl ?_
            refine z_aald iX1_bestAt_34 hbest ⟨by decide, by decide⟩ (nI_toInt (by omega)) (show R < 10 by omega) ?_
            refine z_il iX1_bestAt_35 rfl ?_
            refine z_iald iX1_bestAt_36 hb (show i.toInt = (zN i : Int) by omega) (show zN i < 6 by omega) ?_
            refine z_goto iX1_bestAt_37 ?_
            refine z_iret iX1_bestAt_41 rfl ?_
            refine ⟨_, rfl, rfl, ?_⟩
            first
            | exact (if_pos g).symm
            | (refine (if_neg (fun q => ?_)).symm
               first
               | (simp only [zi_le, zi_lt, eN, Int32.reduceToInt] at h3; omega)
               | (simp only [zi_le, zi_lt, eN, Int32.reduceToInt] at h4; omega)
               | (simp only [zi_le, zi_lt, eN, Int32.reduceToInt] at h5; omega))
def orV (W : Nat → Nat) (N R : Nat) (i : Int32) : Int32 := if ¬ rmP W N R then -1 else if i = -1 then nI (bsF W N R).1 else if 0 ≤ i.toInt ∧ i.toInt < (N : Int) then nI ((bsF W N R).2.getD (zN i) 0) else -1
def sp_order (I : zSI) (A : zSA) (L : zSL) (r i : Int32) : zRes := (if zBw r 1 9 then orV (fun j => zN (A 25 j)) (zN (I 9)) (zN r) i else -2, I, A, L)
theorem orV_0 {W : Nat → Nat} {N R : Nat} {i : Int32} (h : ¬ rmP W N R) : orV W N R i = -1 := if_pos h
theorem orV_1 {W : Nat → Nat} {N R : Nat} (h : rmP W N R) : orV W N R (-1) = nI (bsF W N R).1 := (if_neg (fun q => q h)).trans (if_pos rfl)
theorem orV_2 {W : Nat → Nat} {N R : Nat} {i : Int32} (h : rmP W N R) (hi : ¬ i = -1) : orV W N R i = if 0 ≤ i.toInt ∧ i.toInt < (N : Int) then nI ((bsF W N R).2.getD (zN i) 0) else -1 := (if_neg (fun q => q h)).trans (if_neg hi)
/-- the search's cells are the class's again -/
theorem RepX.search {TR : zTR} {M M' : zM} {I : zSI} {A : zSA} {L : zSL} {R : Nat} {rr ff bb jf : Nat → Int32} {jb : Nat → Nat → Int32} {x : Int32} (h : RepX TR JRc M I A L) (S : fbS M R M' rr ff bb) (hR : R < 10)
    (k0 : M (9, 0) = some (.inr (1, [zi (I 9), zr (14, 0), zr (15, 0), zr (16, 0), zr (17, 0)]))) (k1 : M (14, 0) = some (.inl (0, 6, .inl (A 25)))) (k4 : M (17, 0) = some (.inl (9, 10, .inr (.inr fun r => some (18, r))))) (k5 : ∀ r : Nat, r < 10 → M (18, r) = some (.inl (0, 6, .inl (jb r)))) (k6 : JRc (I 9) (A 25) jf jb)
    (hff : ∀ k, k ≠ R → ff k = jf k) (hx : ff R = x) (hok : okR (fun j => zN (A 25 j)) (zN (I 9)) R x bb) : RepX TR JRc M' I A L := by
  refine h.jobs (fun a _ _ a3 a4 a5 => S.1 a (fun q => a3 (congrArg Prod.fst q)) (fun q => a4 (congrArg Prod.fst q)) (fun q => a5 (congrArg Prod.fst q))) ⟨rr, ff, fun r => if r = R then bb else jb r, (S.fr (by decide)).trans k0, (S.fr (by decide)).trans k1, S.2.1, S.2.2.1, (S.fr (by decide)).trans k4, fun r hr => ?_, fun r h1 h2 => ?_⟩ (fun _ _ => rfl) (fun _ _ _ => rfl)
  · show M' (18, r) = some (.inl (0, 6, .inl (if r = R then bb else jb r)))
    by_cases z : r = R
    · subst z
      rw [if_pos rfl]
      exact S.2.2.2
    · rw [if_neg z]
      exact (S.1 _ (fun q => absurd (congrArg Prod.fst q) (by decide : (18 : Nat) ≠ 15)) (fun q => absurd (congrArg Prod.fst q) (by decide : (18 : Nat) ≠ 16)) (fun q => z (congrArg Prod.snd q))).trans (k5 r hr)
  · show ff r = -2 ∨ okR (fun j => zN (A 25 j)) (zN (I 9)) r (ff r) (if r = R then bb else jb r)
    by_cases z : r = R
    · subst z
      rw [if_pos rfl, hx]
      exact Or.inr hok
    · rw [if_neg z, hff r z]
      exact k6 r h1 h2
theorem fbS.out {M M1 : zM} {R : Nat} {rr ff bb : Nat → Int32} (h : fbS M R M1 rr ff bb) (a : zAd) (ha : a.1 < 2 ∨ 40 ≤ a.1) : M1 a = M a := h.1 a (fun q => by have := congrArg Prod.fst q; simp only at this; omega) (fun q => by have := congrArg Prod.fst q; simp only at this; omega) (fun q => by have := congrArg Prod.fst q; simp only at this; omega)
set_option maxRecDepth 20000 in
set_option maxHeartbeats 4000000 in
theorem px_order {TR : zTR} {fr : Nat} {M : zM} {I : zSI} {A : zSA} {L : zSL} (hf : 7 ≤ fr) (hX : RepX TR JRc M I A L) (hV : Val I A L) (r i : Int32) : zCi zX10_order fr 0 0 [zr (2, 0), zi r, zi i] M (fun x M' => zEX TR JRc M x (sp_order I A L r i) M') := by
  refine z_enter (L := [some (zr (2, 0)), some (zi r), some (zi i)]) rfl (by decide +kernel) (Nat.le_of_ble_eq_true rfl) ?_
  obtain ⟨j9, jN, jw⟩ := jv_f hV
  obtain ⟨jr, jf, jb, hjobs0, k1, k2, k3, k4, k5, k6⟩ := hX.2.2.2.2.2.2.2.2
  have hjobs := hjobs0
  rw [j9] at hjobs
  refine z_il iX10_order_0 rfl ?_
  refine z_co iX10_order_1 ?_
  refine z_co iX10_order_2 ?_
  refine z_cs3i (fr' := fr - 1) iX10_order_4 zmX10_within (c10_within _ _ _) (by omega) (Nat.le_of_ble_eq_true rfl) (fun x M1 hq => ?_)
  obtain ⟨rfl, rfl⟩ := hq
  refine z_ib_ne iX10_order_7 (fun h1 => ?_) (fun h1 => ?_)
  · refine z_al iX10_order_13 rfl ?_
    refine z_gf iX10_order_14 hX.1.1 rfl ?_
    refine z_il (x := nI (zN r)) iX10_order_17 (by rw [← (zR9 h1).1]; rfl) ?_
    refine z_cv1i (fr' := fr - 1) iX10_order_18 zmX1_fewestChanges hjobs (c1_fewest hjobs k4 k1 (fun j hj => (jw j hj).1) (fun j hj => (jw j hj).2) jN (zR9 h1).2.1 (zR9 h1).2.2 (by omega) k2 k3 (k5 _ (by have := (zR9 h1).2.2; omega)) (k6 _ (zR9 h1).2.1 (zR9 h1).2.2)) (by omega) (Nat.le_of_ble_eq_true rfl) (fun x M1 hq => ?_)
    obtain ⟨rr, ff, bb, S, hff, hfx, hok⟩ := hq
    have hX2 := hX.search S (by have := (zR9 h1).2.2; omega) hjobs0 k1 k4 k5 k6 hff hfx hok
    refine z_is iX10_order_21 ?_
    refine z_il iX10_order_22 rfl ?_
    refine z_co iX10_order_23 ?_
    refine z_icmp_eq iX10_order_24 (fun h2 => ?_) (fun h2 => ?_)
    · refine z_il iX10_order_32 rfl ?_
      refine z_iret iX10_order_33 rfl ?_
      refine ⟨_, rfl, ?_⟩
      unfold sp_order
      rw [if_pos h1]
      by_cases hroom : rmP (fun j => zN (A 25 j)) (zN (I 9)) (zN r)
      · have e := (hok.1 hroom).1
        first
        | (subst h2
           rw [orV_1 hroom, ← e]
           exact ⟨rfl, S.out, hX2⟩)
        | exact absurd (e.symm.trans h3) (nI_m1 (bsF_60 jN))
      · rw [orV_0 hroom, ← hok.2 hroom]
        exact ⟨rfl, S.out, hX2⟩
    · refine z_il iX10_order_27 rfl ?_
      refine z_co iX10_order_28 ?_
      refine z_icmp_ne iX10_order_29 (fun h3 => ?_) (fun h3 => ?_)
      · refine z_al iX10_order_34 rfl ?_
        refine z_gf iX10_order_35 ((S.fr (by decide)).trans hX.1.1) rfl ?_
        refine z_il (x := nI (zN r)) iX10_order_38 (by rw [← (zR9 h1).1]; rfl) ?_
        refine z_il iX10_order_39 rfl ?_
        refine z_cv2i (fr' := fr - 1) iX10_order_40 zmX1_bestAt ((S.fr (by decide)).trans hjobs) (c1_bestAt ((S.fr (by decide)).trans hjobs) ((S.fr (by decide)).trans k4) S.2.2.2 jN (zR9 h1).2.1 (zR9 h1).2.2 i) (by omega) (Nat.le_of_ble_eq_true rfl) (fun x M1 hq => ?_)
        obtain ⟨rfl, rfl⟩ := hq
        refine z_iret iX10_order_43 rfl ?_
        refine ⟨_, rfl, ?_⟩
        unfold sp_order
        rw [if_pos h1]
        have hroom : rmP (fun j => zN (A 25 j)) (zN (I 9)) (zN r) := Decidable.byContradiction (fun q => h3 (hok.2 q))
        have hb2 := (hok.1 hroom).2
        rw [orV_2 hroom h2]
        by_cases g : 0 ≤ i.toInt ∧ i.toInt < (zN (I 9) : Int)
        · rw [if_pos g, if_pos g, hb2.2.2 _ (show zN i < zN (I 9) by have e0 : zN i = i.toInt.toNat := rfl; omega)]
          exact ⟨rfl, S.out, hX2⟩
        · rw [if_neg g, if_neg g]
          exact ⟨rfl, S.out, hX2⟩
      · refine z_il iX10_order_32 rfl ?_
        refine z_iret iX10_order_33 rfl ?_
        refine ⟨_, rfl, ?_⟩
        unfold sp_order
        rw [if_pos h1]
        by_cases hroom : rmP (fun j => zN (A 25 j)) (zN (I 9)) (zN r)
        · have e := (hok.1 hroom).1
          first
          | (subst h2
             rw [orV_1 hroom, ← e]
             exact ⟨rfl, S.out, hX2⟩)
          | exact absurd (e.symm.trans h3) (nI_m1 (bsF_60 jN))
        · rw [orV_0 hroom, ← hok.2 hroom]
          exact ⟨rfl, S.out, hX2⟩
  · refine z_co iX10_order_10 ?_
    refine z_iret iX10_order_12 rfl ?_
    refine ⟨_, rfl, ?_⟩
    unfold sp_order
    rw [if_neg h1]
    exact zEX.rd hX
