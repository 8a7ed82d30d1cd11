/-- an edge with its trail is written anew -/
theorem RepX.cutT {TR : zTR} {JR : zJR} {M M' : zM} {I : zSI} {A A' : zSA} {L L' : zSL} (h : RepX TR JR M I A L) (hV : Val I A L) {e : Nat} (he : (e : Int) < (I 0).toInt) (hf : ∀ a : zAd, a ≠ (28, e) → a ≠ (29, e) → M' a = M a)
    (h28 : M' (28, e) = some (.inr (0, xEdge A' L' e))) {g : Nat → Int32} (h29 : M' (29, e) = some (.inl (0, 8, .inl g))) (hg : ∀ j : Nat, (j : Int) < (A' 11 e).toInt → g j = A' 10 (8 * e + j))
    (hA : ∀ k, k < 30 → 12 ≤ k → A' k = A k) (hj : ∀ k, k ≠ 10 → ∀ j, j ≠ e → A' k j = A k j) (h10 : ∀ i j, i ≠ e → j < 8 → A' 10 (8 * i + j) = A 10 (8 * i + j)) (hL : ∀ j, j ≠ e → L' j = L j) : RepX TR JR M' I A' L' := by
  obtain ⟨h1, h2, h3, h4, h5, h6, h7, h8, h9⟩ := h
  have K : ∀ k i, k ≠ 28 → k ≠ 29 → M' (k, i) = M (k, i) := fun k i a b => hf _ (zneK a) (zneK b)
  have q := fun k h1 h2 => (hA k h1 h2).symm
  have q12 := q 12 (by decide) (by decide); have q13 := q 13 (by decide) (by decide); have q14 := q 14 (by decide) (by decide); have q15 := q 15 (by decide) (by decide); have q16 := q 16 (by decide) (by decide); have q17 := q 17 (by decide) (by decide); have q18 := q 18 (by decide) (by decide); have q19 := q 19 (by decide) (by decide); have q20 := q 20 (by decide) (by decide); have q21 := q 21 (by decide) (by decide); have q22 := q 22 (by decide) (by decide); have q23 := q 23 (by decide) (by decide); have q24 := q 24 (by decide) (by decide); have q25 := q 25 (by decide) (by decide); have q26 := q 26 (by decide) (by decide); have q27 := q 27 (by decide) (by decide); have q28 := q 28 (by decide) (by decide); have q29 := q 29 (by decide) (by decide)
  refine ⟨h1.fr fun k g1 g2 => K k 0 (by omega) (by omega), ⟨fun e' he' => ?_, fun e' he' => ?_⟩, ?_, ?_, ?_, ?_, ?_, h8.fr (K _ _ (by decide) (by decide)) (K _ _ (by decide) (by decide)) (K _ _ (by decide) (by decide)) (K _ _ (by decide) (by decide)), ?_⟩
  · by_cases z : e' = e
    · subst z
      exact ⟨h28, g, h29, hg⟩
    · obtain ⟨g1, f, g2, g3⟩ := h2.1 e' he'
      have g8 := (hV.2.1 e' he').2.2.1.2
      refine ⟨?_, f, (hf _ (zneK (by decide : (29 : Nat) ≠ 28)) (zneI z)).trans g2, fun j hj2 => ?_⟩
      · rw [hf _ (zneI z) (zneK (by decide : (28 : Nat) ≠ 29)), g1]
        unfold xEdge
        rw [hj 0 (by decide) _ z, hj 1 (by decide) _ z, hj 2 (by decide) _ z, hj 3 (by decide) _ z, hj 4 (by decide) _ z, hj 5 (by decide) _ z, hj 6 (by decide) _ z, hj 7 (by decide) _ z, hj 8 (by decide) _ z, hj 9 (by decide) _ z, hj 11 (by decide) _ z, hL _ z]
      · rw [hj 11 (by decide) _ z] at hj2
        rw [h10 e' j z (by omega)]
        exact g3 j hj2
  · obtain ⟨g1, g2⟩ := h2.2 e' he'
    have z : e' ≠ e := by omega
    exact ⟨(hf _ (zneI z) (zneK (by decide : (28 : Nat) ≠ 29))).trans g1, (hf _ (zneK (by decide : (29 : Nat) ≠ 28)) (zneI z)).trans g2⟩
  · simp only [xTo, xTool, q12, q13, q14, q15, q16, q17, q18] at h3
    exact xTo.fr (A := A') h3 (fun e => K 30 e (by decide) (by decide))
  · simp only [xMa, xMach, q22, q23, q24] at h4
    exact xMa.fr (A := A') h4 (fun e => K 31 e (by decide) (by decide)) (fun e => K 32 e (by decide) (by decide))
  · simp only [xSh, q26, q27, q28, q29] at h5
    exact xSh.fr (A := A') h5 (fun e => K 26 e (by decide) (by decide)) (fun e => K 27 e (by decide) (by decide))
  · simp only [xTx, q19, q20] at h6
    exact xTx.fr (A := A') h6 (fun e => K 23 e (by decide) (by decide)) (fun e => K 24 e (by decide) (by decide)) (fun e => K 25 e (by decide) (by decide))
  · simp only [xTa, q21] at h7
    exact xTa.fr (A := A') h7 (K _ _ (by decide) (by decide)) (K _ _ (by decide) (by decide)) (K _ _ (by decide) (by decide)) (K _ _ (by decide) (by decide))
  · simp only [xJo, q25] at h9
    exact xJo.fr (A := A') h9 (K _ _ (by decide) (by decide)) (K _ _ (by decide) (by decide)) (K _ _ (by decide) (by decide)) (K _ _ (by decide) (by decide)) (K _ _ (by decide) (by decide)) (fun e => K 18 e (by decide) (by decide))
theorem tE.congr {I : zSI} {A A' : zSA} (h : tE I A) (h19 : A' 19 = A 19) (h20 : A' 20 = A 20) (h21 : A' 21 = A 21) : tE I A' := by
  have e : ∀ t, zRow A' t = zRow A t := fun t => by unfold zRow; rw [h19]
  unfold tE
  simp only [e, h20, h21]
  exact h
/-- the state behind a cut, the edge's state aside -/
def sA_c (A : zSA) (m c s : Int32) (e : Nat) : zSA := sA_go (zA2 (zA2 (zA2 A 6 e (A 6 e + c)) 7 e (A 22 (zN m))) 8 e s) e (zN (A 11 e)) m
def sL_c (A : zSA) (L : zSL) (m c s : Int32) (e : Nat) : zSL := zup L e (L e + c.toInt64 * (zWear (A 0 e) (A 22 (zN m)) s).toInt64)
theorem sA_c_row {A : zSA} {m c s : Int32} {e k : Nat} (h : k ≠ 6 ∧ k ≠ 7 ∧ k ≠ 8 ∧ k ≠ 10 ∧ k ≠ 11) : sA_c A m c s e k = A k := by
  unfold sA_c sA_go
  rw [zup_n h.2.2.2.2, zup_n h.2.2.2.1, zA2_row h.2.2.1, zA2_row h.2.1, zA2_row h.1]
theorem sA_c_col {A : zSA} {m c s : Int32} {e k j : Nat} (h : k ≠ 10) (hj : j ≠ e) : sA_c A m c s e k j = A k j := by
  unfold sA_c sA_go
  by_cases z : k = 11
  · rw [z, zup_s, zup_n hj, zA2_row (by decide), zA2_row (by decide), zA2_row (by decide)]
  · rw [zup_n z, zup_n h, zA2_col hj, zA2_col hj, zA2_col hj]
theorem sA_c_11 {A : zSA} {m c s : Int32} {e : Nat} : sA_c A m c s e 11 e = nI (goN (fun j => A 10 (8 * e + j)) (zN (A 11 e)) m) := by
  unfold sA_c sA_go
  rw [zup_s, zup_s, zA2_row (by decide), zA2_row (by decide), zA2_row (by decide)]
theorem sA_c_10 {A : zSA} {m c s : Int32} {e : Nat} : sA_c A m c s e 10 = goR (A 10) e (zN (A 11 e)) m := by
  unfold sA_c sA_go
  rw [zup_n (by decide), zup_s, zA2_row (by decide), zA2_row (by decide), zA2_row (by decide)]
def sp_cutB (I : zSI) (A : zSA) (L : zSL) (e b : Nat) : zRes := if ¬ sVal I A b 1 = 0 then (nI b, I, zA2 A 5 e 2, L) else if 0 ≤ lg_cmp (L e) (100 * (A 4 e).toInt64) ∨ ¬ sVal I A b 0 = 0 then (nI b, I, zA2 A 5 e 1, L) else (nI b, I, A, L)
def sp_cutO (I : zSI) (A : zSA) (L : zSL) (m c s : Int32) : Option Nat → zRes
  | none => (-3, I, A, L)
  | some b => sp_cutB I (sA_c A m c s (zN (A 13 b))) (sL_c A L m c s (zN (A 13 b))) (zN (A 13 b)) b
def sp_cut (I : zSI) (A : zSA) (L : zSL) (m fa c s : Int32) : zRes := if ¬ zBw m 0 (I 8 - 1) ∨ ¬ zBw fa 0 9 ∨ ¬ zBw c 1 99 ∨ ¬ zBw s 1 20 then (-2, I, A, L) else sp_cutO I A L m c s (tkr A L m fa (zN (I 1)))
theorem zE11 {I : zSI} {A : zSA} {L : zSL} (hV : Val I A L) {e : Nat} (he : (e : Int) < (I 0).toInt) : A 11 e = nI (zN (A 11 e)) ∧ zN (A 11 e) ≤ 8 := by
  obtain ⟨h1, h2⟩ := (hV.2.1 e he).2.2.1
  have e0 : zN (A 11 e) = (A 11 e).toInt.toNat := rfl
  refine ⟨?_, by omega⟩
  rw [← Int32.toInt_inj, nI_toInt (by omega)]
  omega
set_option maxRecDepth 20000 in
set_option maxHeartbeats 4000000 in
theorem c0_cutBy {fr : Nat} {M : zM} {a b : zAd} {y0 y1 y2 y4 y5 y6 y7 y8 y9 y10 y11 : Int32} {y12 : Int64} (hf : 2 ≤ fr) (h2 : 2 ≤ a.1) (hthis : M a = some (.inr (0, [zi y0, zi y1, zi y2, zr b, zi y4, zi y5, zi y6, zi y7, zi y8, zi y9, zi y10, zi y11, zl y12]))) (c sp st : Int32) : zCv zX0_cutBy fr 0 0 [zr a, zi c, zi sp, zi st] M (fun M' => M' = zupd M a (.inr (0, [zi y0, zi y1, zi y2, zr b, zi y4, zi y5, zi y6, zi y7, zi (y8 + c), zi sp, zi st, zi y11, zl (y12 + c.toInt64 * (zWear y0 sp st).toInt64)]))) := by
  refine z_enter (L := [some (zr a), some (zi c), some (zi sp), some (zi st)]) rfl (by decide +kernel) (Nat.le_of_ble_eq_true rfl) ?_
  refine z_al iX0_cutBy_0 rfl ?_
  refine z_dup iX0_cutBy_1 ?_
  refine z_gf iX0_cutBy_2 hthis rfl ?_
  refine z_il iX0_cutBy_5 rfl ?_
  refine z_iadd iX0_cutBy_6 ?_
  refine z_pf iX0_cutBy_7 hthis h2 (Nat.le_of_ble_eq_true rfl) trivial ?_
  refine z_al iX0_cutBy_10 rfl ?_
  refine z_dup iX0_cutBy_11 ?_
  refine z_gf iX0_cutBy_12 zupd_s rfl ?_
  refine z_il iX0_cutBy_15 rfl ?_
  refine z_i2l iX0_cutBy_16 ?_
  refine z_al iX0_cutBy_17 rfl ?_
  refine z_gf iX0_cutBy_18 zupd_s rfl ?_
  refine z_il iX0_cutBy_21 rfl ?_
  refine z_il iX0_cutBy_22 rfl ?_
  refine z_cs3i (fr' := fr - 1) iX0_cutBy_23 zmX10_wearOf (c10_wearOf (by omega) _ _ _) (by omega) (Nat.le_of_ble_eq_true rfl) (fun x M1 hq => ?_)
  obtain ⟨rfl, rfl⟩ := hq
  refine z_i2l iX0_cutBy_26 ?_
  refine z_lmul iX0_cutBy_27 ?_
  refine z_ladd iX0_cutBy_28 ?_
  refine z_pf2 iX0_cutBy_29 h2 (Nat.le_of_ble_eq_true rfl) trivial ?_
  refine z_al iX0_cutBy_32 rfl ?_
  refine z_il iX0_cutBy_33 rfl ?_
  refine z_pf2 iX0_cutBy_34 h2 (Nat.le_of_ble_eq_true rfl) trivial ?_
  refine z_al iX0_cutBy_37 rfl ?_
  refine z_il iX0_cutBy_38 rfl ?_
  refine z_pf2 iX0_cutBy_39 h2 (Nat.le_of_ble_eq_true rfl) trivial ?_
  refine z_vret iX0_cutBy_42 rfl ?_
  exact ⟨rfl, rfl⟩
theorem zneK2 {a : zAd} {k i : Nat} (h : a.1 ≠ k) : a ≠ (k, i) := fun q => h (by rw [q])
set_option maxRecDepth 20000 in
set_option maxHeartbeats 4000000 in
theorem px_cut {JR : zJR} {fr : Nat} {M : zM} {I : zSI} {A : zSA} {L : zSL} (hf : 20 ≤ fr) (hX : RepX TRc JR M I A L) (hV : Val I A L) (m fa c s : Int32) : zCi zX10_cut fr 0 0 [zr (2, 0), zi m, zi fa, zi c, zi s] M (fun x M' => zEX TRc JR M x (sp_cut I A L m fa c s) M') := by
  refine z_enter (L := [some (zr (2, 0)), some (zi m), some (zi fa), some (zi c), some (zi s)]) rfl (by decide +kernel) (Nat.le_of_ble_eq_true rfl) ?_
  refine z_al iX10_cut_0 rfl ?_
  refine z_il iX10_cut_1 rfl ?_
  refine z_cv1a (fr' := fr - 1) iX10_cut_2 zmX10_machineOf hX.1.1 (c10_machineOf (by omega) hX hV _) (by omega) (Nat.le_of_ble_eq_true rfl) (fun x M1 hq => ?_)
  obtain ⟨rfl, rfl⟩ := hq
  refine z_as iX10_cut_5 ?_
  refine z_alo iX10_cut_7 rfl ?_
  refine z_ifnull iX10_cut_9 (fun h1 => ?_) (fun x1 h1 => ?_)
  · refine z_co iX10_cut_40 ?_
    refine z_iret iX10_cut_42 rfl ?_
    refine ⟨_, rfl, ?_⟩
    unfold sp_cut
    have hc : ¬ zBw m 0 (I 8 - 1) ∨ ¬ zBw fa 0 9 ∨ ¬ zBw c 1 99 ∨ ¬ zBw s 1 20 := by
      first | exact Or.inl (xo_n h1) | exact Or.inr (Or.inl h2) | exact Or.inr (Or.inr (Or.inl h3)) | exact Or.inr (Or.inr (Or.inr h4))
    rw [if_pos hc]
    exact zEX.rd hX
  · rw [h1]
    obtain ⟨qh1, rfl⟩ := xo_s h1
    have hmach := (hX.2.2.2.1.1 _ (zIdx qh1 hV.1.2.2.2.2.2.1 (by decide)).2.1).1
    refine z_il iX10_cut_12 rfl ?_
    refine z_cs1i (fr' := fr - 1) iX10_cut_13 zmX10_isFamily (c10_isFamily (by omega) _) (by omega) (Nat.le_of_ble_eq_true rfl) (fun x M1 hq => ?_)
    obtain ⟨rfl, rfl⟩ := hq
    refine z_ib_eq iX10_cut_16 (fun h2 => ?_) (fun h2 => ?_)
    · refine z_co iX10_cut_40 ?_
      refine z_iret iX10_cut_42 rfl ?_
      refine ⟨_, rfl, ?_⟩
      unfold sp_cut
      have hc : ¬ zBw m 0 (I 8 - 1) ∨ ¬ zBw fa 0 9 ∨ ¬ zBw c 1 99 ∨ ¬ zBw s 1 20 := by
        first | exact Or.inl (xo_n h1) | exact Or.inr (Or.inl h2) | exact Or.inr (Or.inr (Or.inl h3)) | exact Or.inr (Or.inr (Or.inr h4))
      rw [if_pos hc]
      exact zEX.rd hX
    · refine z_il iX10_cut_19 rfl ?_
      refine z_co iX10_cut_20 ?_
      refine z_co iX10_cut_21 ?_
      refine z_cs3i (fr' := fr - 1) iX10_cut_23 zmX10_within (c10_within _ _ _) (by omega) (Nat.le_of_ble_eq_true rfl) (fun x M1 hq => ?_)
      obtain ⟨rfl, rfl⟩ := hq
      refine z_ib_eq iX10_cut_26 (fun h3 => ?_) (fun h3 => ?_)
      · refine z_co iX10_cut_40 ?_
        refine z_iret iX10_cut_42 rfl ?_
        refine ⟨_, rfl, ?_⟩
        unfold sp_cut
        have hc : ¬ zBw m 0 (I 8 - 1) ∨ ¬ zBw fa 0 9 ∨ ¬ zBw c 1 99 ∨ ¬ zBw s 1 20 := by
          first | exact Or.inl (xo_n h1) | exact Or.inr (Or.inl h2) | exact Or.inr (Or.inr (Or.inl h3)) | exact Or.inr (Or.inr (Or.inr h4))
        rw [if_pos hc]
        exact zEX.rd hX
      · refine z_il iX10_cut_29 rfl ?_
        refine z_co iX10_cut_31 ?_
        refine z_co iX10_cut_32 ?_
        refine z_cs3i (fr' := fr - 1) iX10_cut_34 zmX10_within (c10_within _ _ _) (by omega) (Nat.le_of_ble_eq_true rfl) (fun x M1 hq => ?_)
        obtain ⟨rfl, rfl⟩ := hq
        refine z_ib_ne iX10_cut_37 (fun h4 => ?_) (fun h4 => ?_)
        · refine z_al iX10_cut_43 rfl ?_
          refine z_il iX10_cut_44 rfl ?_
          refine z_il iX10_cut_45 rfl ?_
          refine z_cv2i (fr' := fr - 1) iX10_cut_46 zmX10_takerOf hX.1.1 (c10_takerOf (by omega) hX hV _ _) (by omega) (Nat.le_of_ble_eq_true rfl) (fun x M1 hq => ?_)
          obtain ⟨rfl, rfl⟩ := hq
          refine z_is iX10_cut_49 ?_
          refine z_al iX10_cut_51 rfl ?_
          refine z_il iX10_cut_52 rfl ?_
          refine z_cv1a (fr' := fr - 1) iX10_cut_54 zmX10_toolOf hX.1.1 (c10_toolOf (by omega) hX hV _) (by omega) (Nat.le_of_ble_eq_true rfl) (fun x M1 hq => ?_)
          obtain ⟨rfl, rfl⟩ := hq
          refine z_as iX10_cut_57 ?_
          refine z_alo iX10_cut_59 rfl ?_
          refine z_ifnonnull iX10_cut_61 (fun x5 h5 => ?_) (fun h5 => ?_)
          · obtain ⟨b, hb⟩ : ∃ b, tkr A L m fa (zN (I 1)) = some b := by
              cases hb : tkr A L m fa (zN (I 1)) with
              | none =>
                rw [hb] at h5
                exact absurd (xo_s h5).1.1 (by decide)
              | some b => exact ⟨b, rfl⟩
            have hb10 : b < 10 ∧ (b : Int) < (I 1).toInt := by have := (tkr_lt hb).1; have := hV.1.2.1; obtain ⟨z1, z2⟩ := this; have e0 : zN (I 1) = (I 1).toInt.toNat := rfl; omega
            have hbt := hb10.2
            rw [hb, show tI (some b) = nI b from rfl, xo_nat hbt (by omega)]
            have htool := hX.2.2.1.1 b hbt
            have he0 := (zEt hV hbt).2.2
            have h11 := zE11 hV he0
            obtain ⟨hedge0, f, htr, htr2⟩ := hX.2.1.1 _ he0
            have hedge := hedge0
            unfold xEdge at hedge
            rw [h11.1] at hedge
            refine z_al iX10_cut_67 rfl ?_
            refine z_gf iX10_cut_69 htool rfl ?_
            refine z_as iX10_cut_72 ?_
            refine z_al iX10_cut_74 rfl ?_
            refine z_il iX10_cut_76 rfl ?_
            refine z_al iX10_cut_77 rfl ?_
            refine z_gf iX10_cut_79 hmach rfl ?_
            refine z_il iX10_cut_82 rfl ?_
            refine z_cv3v (fr' := fr - 1) iX10_cut_84 zmX0_cutBy hedge (c0_cutBy (by omega) (show 2 ≤ 28 by decide) hedge _ _ _) (by omega) (Nat.le_of_ble_eq_true rfl) (fun M1 hq => ?_)
            obtain rfl := hq
            refine z_al iX10_cut_87 rfl ?_
            refine z_il iX10_cut_89 rfl ?_
            refine z_cv1v (fr' := fr - 1) iX10_cut_90 zmX0_follow zupd_s (c0_follow (by omega) h11.2 qh1.1 zupd_s ((zupd_k (show (29 : Nat) ≠ 28 by decide)).trans htr)) (by omega) (Nat.le_of_ble_eq_true rfl) (fun M1 hq => ?_)
            obtain ⟨g28, g29, gfr⟩ := hq
            have hfx : ∀ a : zAd, (a.1 < 2 ∨ 40 ≤ a.1) → M1 a = _ := fun a ha => (gfr a (zneK2 (show a.1 ≠ 28 by omega)) (zneK2 (show a.1 ≠ 29 by omega))).trans (zupd_k (show a.1 ≠ 28 by omega))
            have hgf : ∀ j, j < zN (A 11 (zN (A 13 b))) → f j = A 10 (8 * zN (A 13 b) + j) := fun j hj => htr2 j (by rw [h11.1, nI_toInt (by have := h11.2; omega)]; omega)
            have hX1 : RepX TRc JR M1 I (sA_c A m c s (zN (A 13 b))) (sL_c A L m c s (zN (A 13 b))) := by
              refine hX.cutT hV he0 (fun a a1 a2 => (gfr a a1 a2).trans (zupd_n a1)) ?_ g29 (fun j hj => ?_) (fun k a1 a2 => sA_c_row (by omega)) (fun k a1 j a2 => sA_c_col a1 a2) (fun i j a1 a2 => ?_) (fun j a1 => zup_n a1)
              · rw [g28]
                unfold xEdge
                rw [sA_c_row (k := 0) (by decide), sA_c_row (k := 1) (by decide), sA_c_row (k := 2) (by decide), sA_c_row (k := 3) (by decide), sA_c_row (k := 4) (by decide), sA_c_row (k := 5) (by decide), sA_c_row (k := 9) (by decide), sA_c_11, goN_c hgf]
                have r6 : sA_c A m c s (zN (A 13 b)) 6 (zN (A 13 b)) = A 6 (zN (A 13 b)) + c := by simp [sA_c, sA_go, zA2, zup]
                have r7 : sA_c A m c s (zN (A 13 b)) 7 (zN (A 13 b)) = A 22 (zN m) := by simp [sA_c, sA_go, zA2, zup]
                have r8 : sA_c A m c s (zN (A 13 b)) 8 (zN (A 13 b)) = s := by simp [sA_c, sA_go, zA2, zup]
                have rL : sL_c A L m c s (zN (A 13 b)) (zN (A 13 b)) = L (zN (A 13 b)) + c.toInt64 * (zWear (A 0 (zN (A 13 b))) (A 22 (zN m)) s).toInt64 := zup_s
                rw [r6, r7, r8, rL]
              · rw [sA_c_10]
                refine goT_R h11.2 hgf j ?_
                rw [sA_c_11, nI_toInt (by have := goN_8 (f := fun j => A 10 (8 * zN (A 13 b) + j)) (m := m) h11.2; omega)] at hj
                rw [goN_c hgf]
                omega
              · rw [sA_c_10]
                exact goR_n h11.2 (by omega)
            have hX := hX1
            have htool := hX.2.2.1.1 b hbt
            have hedge := (hX.2.1.1 _ he0).1
            refine z_al iX10_cut_93 rfl ?_
            refine z_al iX10_cut_94 rfl ?_
            refine z_co iX10_cut_96 ?_
            refine z_cv2i (fr' := fr - 1) iX10_cut_97 zmX10_ruleFor hX.1.1 (c10_ruleFor (k := 1) (by omega) hX (zRu hV).1 (by rw [sA_c_row (k := 20) (by decide)]; exact (zRu hV).2) hbt (by rw [sA_c_row (k := 13) (by decide)]; exact (hV.2.2.1 _ hbt).1) rfl (by decide)) (by omega) (Nat.le_of_ble_eq_true rfl) (fun x M1 hq => ?_)
            obtain ⟨hv1, hfr, hX2⟩ := hq
            have hfx : ∀ a : zAd, (a.1 < 2 ∨ 40 ≤ a.1) → M1 a = _ := fun a ha => (hfr a (by omega) (by omega) (by omega)).trans (hfx a ha)
            have hX := hX2
            have htool := hX.2.2.1.1 b hbt
            have hedge := (hX.2.1.1 _ he0).1
            refine z_if_eq iX10_cut_100 (fun h6 => ?_) (fun h6 => ?_)
            · refine z_al iX10_cut_112 rfl ?_
              refine z_gf iX10_cut_114 hedge rfl ?_
              refine z_al iX10_cut_117 rfl ?_
              refine z_cv0j (fr' := fr - 1) iX10_cut_119 zmX0_wearInAll hedge (c0_inAll hedge) (by omega) (Nat.le_of_ble_eq_true rfl) (fun x M1 hq => ?_)
              obtain ⟨rfl, rfl⟩ := hq
              refine z_lcmp iX10_cut_122 ?_
              refine z_if_ge iX10_cut_123 (fun h7 => ?_) (fun h7 => ?_)
              · refine z_al iX10_cut_136 rfl ?_
                refine z_co iX10_cut_138 ?_
                refine z_pf iX10_cut_139 hedge (show 2 ≤ 28 by decide) (Nat.le_of_ble_eq_true rfl) trivial ?_
                refine z_il iX10_cut_142 rfl ?_
                refine z_iret iX10_cut_144 rfl ?_
                refine ⟨_, rfl, ?_⟩
                unfold sp_cut
                rw [if_neg (fun q => q.elim (fun z => z qh1) (fun z => z.elim (fun z => z h2) (fun z => z.elim (fun z => z h3) (fun z => z h4))))]
                rw [hb]
                show zEX TRc JR _ (nI b) (sp_cutB I (sA_c A m c s (zN (A 13 b))) (sL_c A L m c s (zN (A 13 b))) (zN (A 13 b)) b) _
                unfold sp_cutB
                rw [hv1] at h6
                first
                | (rw [if_pos h6]; exact ⟨rfl, fun a ha => (zupd_k (show a.1 ≠ 28 by omega)).trans (hfx a ha), hX.edge (A' := zA2 (sA_c A m c s (zN (A 13 b))) 5 (zN (A 13 b)) 2) (L' := sL_c A L m c s (zN (A 13 b))) he0 (by simp [xEdge, zA2, zup]) (fun k g1 g2 => zA2_row (by omega)) (fun k g1 j g2 => zA2_col g2) (fun j g => rfl)⟩)
                | (rw [if_neg (fun q => q h6), if_pos (Or.inl h7)]; exact ⟨rfl, fun a ha => (zupd_k (show a.1 ≠ 28 by omega)).trans (hfx a ha), hX.edge (A' := zA2 (sA_c A m c s (zN (A 13 b))) 5 (zN (A 13 b)) 1) (L' := sL_c A L m c s (zN (A 13 b))) he0 (by simp [xEdge, zA2, zup]) (fun k g1 g2 => zA2_row (by omega)) (fun k g1 j g2 => zA2_col g2) (fun j g => rfl)⟩)
                | (rw [hv2] at h8; rw [if_neg (fun q => q h6), if_pos (Or.inr h8)]; exact ⟨rfl, fun a ha => (zupd_k (show a.1 ≠ 28 by omega)).trans (hfx a ha), hX.edge (A' := zA2 (sA_c A m c s (zN (A 13 b))) 5 (zN (A 13 b)) 1) (L' := sL_c A L m c s (zN (A 13 b))) he0 (by simp [xEdge, zA2, zup]) (fun k g1 g2 => zA2_row (by omega)) (fun k g1 j g2 => zA2_col g2) (fun j g => rfl)⟩)
                | (rw [hv2] at h8; rw [if_neg (fun q => q h6), if_neg (fun q => q.elim h7 (fun z => z h8))]; exact ⟨rfl, hfx, hX⟩)
              · refine z_al iX10_cut_126 rfl ?_
                refine z_al iX10_cut_127 rfl ?_
                refine z_co iX10_cut_129 ?_
                refine z_cv2i (fr' := fr - 1) iX10_cut_130 zmX10_ruleFor hX.1.1 (c10_ruleFor (k := 0) (by omega) hX (zRu hV).1 (by rw [sA_c_row (k := 20) (by decide)]; exact (zRu hV).2) hbt (by rw [sA_c_row (k := 13) (by decide)]; exact (hV.2.2.1 _ hbt).1) rfl (by decide)) (by omega) (Nat.le_of_ble_eq_true rfl) (fun x M1 hq => ?_)
                obtain ⟨hv2, hfr, hX2⟩ := hq
                have hfx : ∀ a : zAd, (a.1 < 2 ∨ 40 ≤ a.1) → M1 a = _ := fun a ha => (hfr a (by omega) (by omega) (by omega)).trans (hfx a ha)
                have hX := hX2
                have htool := hX.2.2.1.1 b hbt
                have hedge := (hX.2.1.1 _ he0).1
                refine z_if_eq iX10_cut_133 (fun h8 => ?_) (fun h8 => ?_)
                · refine z_il iX10_cut_142 rfl ?_
                  refine z_iret iX10_cut_144 rfl ?_
                  refine ⟨_, rfl, ?_⟩
                  unfold sp_cut
                  rw [if_neg (fun q => q.elim (fun z => z qh1) (fun z => z.elim (fun z => z h2) (fun z => z.elim (fun z => z h3) (fun z => z h4))))]
                  rw [hb]
                  show zEX TRc JR _ (nI b) (sp_cutB I (sA_c A m c s (zN (A 13 b))) (sL_c A L m c s (zN (A 13 b))) (zN (A 13 b)) b) _
                  unfold sp_cutB
                  rw [hv1] at h6
                  first
                  | (rw [if_pos h6]; exact ⟨rfl, fun a ha => (zupd_k (show a.1 ≠ 28 by omega)).trans (hfx a ha), hX.edge (A' := zA2 (sA_c A m c s (zN (A 13 b))) 5 (zN (A 13 b)) 2) (L' := sL_c A L m c s (zN (A 13 b))) he0 (by simp [xEdge, zA2, zup]) (fun k g1 g2 => zA2_row (by omega)) (fun k g1 j g2 => zA2_col g2) (fun j g => rfl)⟩)
                  | (rw [if_neg (fun q => q h6), if_pos (Or.inl h7)]; exact ⟨rfl, fun a ha => (zupd_k (show a.1 ≠ 28 by omega)).trans (hfx a ha), hX.edge (A' := zA2 (sA_c A m c s (zN (A 13 b))) 5 (zN (A 13 b)) 1) (L' := sL_c A L m c s (zN (A 13 b))) he0 (by simp [xEdge, zA2, zup]) (fun k g1 g2 => zA2_row (by omega)) (fun k g1 j g2 => zA2_col g2) (fun j g => rfl)⟩)
                  | (rw [hv2] at h8; rw [if_neg (fun q => q h6), if_pos (Or.inr h8)]; exact ⟨rfl, fun a ha => (zupd_k (show a.1 ≠ 28 by omega)).trans (hfx a ha), hX.edge (A' := zA2 (sA_c A m c s (zN (A 13 b))) 5 (zN (A 13 b)) 1) (L' := sL_c A L m c s (zN (A 13 b))) he0 (by simp [xEdge, zA2, zup]) (fun k g1 g2 => zA2_row (by omega)) (fun k g1 j g2 => zA2_col g2) (fun j g => rfl)⟩)
                  | (rw [hv2] at h8; rw [if_neg (fun q => q h6), if_neg (fun q => q.elim h7 (fun z => z h8))]; exact ⟨rfl, hfx, hX⟩)
                · refine z_al iX10_cut_136 rfl ?_
                  refine z_co iX10_cut_138 ?_
                  refine z_pf iX10_cut_139 hedge (show 2 ≤ 28 by decide) (Nat.le_of_ble_eq_true rfl) trivial ?_
                  refine z_il iX10_cut_142 rfl ?_
                  refine z_iret iX10_cut_144 rfl ?_
                  refine ⟨_, rfl, ?_⟩
                  unfold sp_cut
                  rw [if_neg (fun q => q.elim (fun z => z qh1) (fun z => z.elim (fun z => z h2) (fun z => z.elim (fun z => z h3) (fun z => z h4))))]
                  rw [hb]
                  show zEX TRc JR _ (nI b) (sp_cutB I (sA_c A m c s (zN (A 13 b))) (sL_c A L m c s (zN (A 13 b))) (zN (A 13 b)) b) _
                  unfold sp_cutB
                  rw [hv1] at h6
                  first
                  | (rw [if_pos h6]; exact ⟨rfl, fun a ha => (zupd_k (show a.1 ≠ 28 by omega)).trans (hfx a ha), hX.edge (A' := zA2 (sA_c A m c s (zN (A 13 b))) 5 (zN (A 13 b)) 2) (L' := sL_c A L m c s (zN (A 13 b))) he0 (by simp [xEdge, zA2, zup]) (fun k g1 g2 => zA2_row (by omega)) (fun k g1 j g2 => zA2_col g2) (fun j g => rfl)⟩)
                  | (rw [if_neg (fun q => q h6), if_pos (Or.inl h7)]; exact ⟨rfl, fun a ha => (zupd_k (show a.1 ≠ 28 by omega)).trans (hfx a ha), hX.edge (A' := zA2 (sA_c A m c s (zN (A 13 b))) 5 (zN (A 13 b)) 1) (L' := sL_c A L m c s (zN (A 13 b))) he0 (by simp [xEdge, zA2, zup]) (fun k g1 g2 => zA2_row (by omega)) (fun k g1 j g2 => zA2_col g2) (fun j g => rfl)⟩)
                  | (rw [hv2] at h8; rw [if_neg (fun q => q h6), if_pos (Or.inr h8)]; exact ⟨rfl, fun a ha => (zupd_k (show a.1 ≠ 28 by omega)).trans (hfx a ha), hX.edge (A' := zA2 (sA_c A m c s (zN (A 13 b))) 5 (zN (A 13 b)) 1) (L' := sL_c A L m c s (zN (A 13 b))) he0 (by simp [xEdge, zA2, zup]) (fun k g1 g2 => zA2_row (by omega)) (fun k g1 j g2 => zA2_col g2) (fun j g => rfl)⟩)
                  | (rw [hv2] at h8; rw [if_neg (fun q => q h6), if_neg (fun q => q.elim h7 (fun z => z h8))]; exact ⟨rfl, hfx, hX⟩)
            · refine z_al iX10_cut_103 rfl ?_
              refine z_co iX10_cut_105 ?_
              refine z_pf iX10_cut_106 hedge (show 2 ≤ 28 by decide) (Nat.le_of_ble_eq_true rfl) trivial ?_
              refine z_goto iX10_cut_109 ?_
              refine z_il iX10_cut_142 rfl ?_
              refine z_iret iX10_cut_144 rfl ?_
              refine ⟨_, rfl, ?_⟩
              unfold sp_cut
              rw [if_neg (fun q => q.elim (fun z => z qh1) (fun z => z.elim (fun z => z h2) (fun z => z.elim (fun z => z h3) (fun z => z h4))))]
              rw [hb]
              show zEX TRc JR _ (nI b) (sp_cutB I (sA_c A m c s (zN (A 13 b))) (sL_c A L m c s (zN (A 13 b))) (zN (A 13 b)) b) _
              unfold sp_cutB
              rw [hv1] at h6
              first
              | (rw [if_pos h6]; exact ⟨rfl, fun a ha => (zupd_k (show a.1 ≠ 28 by omega)).trans (hfx a ha), hX.edge (A' := zA2 (sA_c A m c s (zN (A 13 b))) 5 (zN (A 13 b)) 2) (L' := sL_c A L m c s (zN (A 13 b))) he0 (by simp [xEdge, zA2, zup]) (fun k g1 g2 => zA2_row (by omega)) (fun k g1 j g2 => zA2_col g2) (fun j g => rfl)⟩)
              | (rw [if_neg (fun q => q h6), if_pos (Or.inl h7)]; exact ⟨rfl, fun a ha => (zupd_k (show a.1 ≠ 28 by omega)).trans (hfx a ha), hX.edge (A' := zA2 (sA_c A m c s (zN (A 13 b))) 5 (zN (A 13 b)) 1) (L' := sL_c A L m c s (zN (A 13 b))) he0 (by simp [xEdge, zA2, zup]) (fun k g1 g2 => zA2_row (by omega)) (fun k g1 j g2 => zA2_col g2) (fun j g => rfl)⟩)
              | (rw [hv2] at h8; rw [if_neg (fun q => q h6), if_pos (Or.inr h8)]; exact ⟨rfl, fun a ha => (zupd_k (show a.1 ≠ 28 by omega)).trans (hfx a ha), hX.edge (A' := zA2 (sA_c A m c s (zN (A 13 b))) 5 (zN (A 13 b)) 1) (L' := sL_c A L m c s (zN (A 13 b))) he0 (by simp [xEdge, zA2, zup]) (fun k g1 g2 => zA2_row (by omega)) (fun k g1 j g2 => zA2_col g2) (fun j g => rfl)⟩)
              | (rw [hv2] at h8; rw [if_neg (fun q => q h6), if_neg (fun q => q.elim h7 (fun z => z h8))]; exact ⟨rfl, hfx, hX⟩)
          · refine z_co iX10_cut_64 ?_
            refine z_iret iX10_cut_66 rfl ?_
            have hn : tkr A L m fa (zN (I 1)) = none := by
              cases hb : tkr A L m fa (zN (I 1)) with
              | none => rfl
              | some b =>
                have hbt : (b : Int) < (I 1).toInt := by have := (tkr_lt hb).1; have := hV.1.2.1.1; have e0 : zN (I 1) = (I 1).toInt.toNat := rfl; omega
                have q : xo 30 (I 1) (nI b) = none := by
                  have q1 := h5
                  rw [hb] at q1
                  exact q1
                rw [xo_nat hbt (by have := hV.1.2.1.2; omega)] at q
                cases q
            refine ⟨_, rfl, ?_⟩
            unfold sp_cut
            rw [if_neg (fun q => q.elim (fun z => z qh1) (fun z => z.elim (fun z => z h2) (fun z => z.elim (fun z => z h3) (fun z => z h4))))]
            rw [hn]
            exact zEX.rd hX
        · refine z_co iX10_cut_40 ?_
          refine z_iret iX10_cut_42 rfl ?_
          refine ⟨_, rfl, ?_⟩
          unfold sp_cut
          have hc : ¬ zBw m 0 (I 8 - 1) ∨ ¬ zBw fa 0 9 ∨ ¬ zBw c 1 99 ∨ ¬ zBw s 1 20 := by
            first | exact Or.inl (xo_n h1) | exact Or.inr (Or.inl h2) | exact Or.inr (Or.inr (Or.inl h3)) | exact Or.inr (Or.inr (Or.inr h4))
          rw [if_pos hc]
          exact zEX.rd hX
