/-- what the class's cells say of the texts' bytes -/
def tE (I : zSI) (A : zSA) : Prop := (∀ j, j < zN (I 7) → 0 ≤ (A 21 j).toInt ∧ (A 21 j).toInt ≤ 255) ∧ ∀ t : Nat, t < 6 → (t : Int) < (I 5).toInt → (∀ j, j < zN (A 20 t) → 0 ≤ (zRow A t j).toInt ∧ (zRow A t j).toInt ≤ 255) ∧ ∃ r r1 r2 r3 : pqS, r1 = pqPart (tkT (zRow A t) (zN (A 20 t))) (-22) (0, false, []) ∧ r2 = pqPart (tkT (zRow A t) (zN (A 20 t))) (-23) r1 ∧ r3 = pqPart (tkT (zRow A t) (zN (A 20 t))) (-24) r2 ∧ r = pqExp (tkT (zRow A t) (zN (A 20 t))) (-20) r3 ∧ r.2.1 = false
theorem RepX.tE {JR : zJR} {M : zM} {I : zSI} {A : zSA} {L : zSL} (h : RepX TRc JR M I A L) (hV : Val I A L) : tE I A := by
  have h6 := zT6 hV
  refine ⟨fun j hj => ?_, fun t ht ht2 => ?_⟩
  · obtain ⟨tc, f, g, w, -, -, -, -, k5⟩ := h.2.2.2.2.2.2.1
    exact (k5 j (by omega)).2
  · obtain ⟨f, g, sz, cl, -, -, -, k4⟩ := h.2.2.2.2.2.1 t ht
    obtain ⟨q1, r, r1, r2, r3, a1, a2, a3, a4, a5, -⟩ := k4 ht2
    obtain ⟨z3, z4⟩ := hV.2.2.2.2.1 t ht
    have e20 : zN (A 20 t) = (A 20 t).toInt.toNat := rfl
    refine ⟨fun j hj => ?_, r, r1, r2, r3, a1, a2, a3, a4, a5⟩
    rw [show zRow A t j = A 19 (160 * t + j) from zCut_i (show j < 160 by omega)]
    exact q1 j (by omega)
theorem pvR_e {r1 r2 r3 : pqS} {env env2 : Nat → Int32} (h : ∀ i, i < 6 → env i = env2 i) (k : Nat) : pvR r1 r2 r3 env k = pvR r1 r2 r3 env2 k := by
  unfold pvR
  rw [pqRun_e h]
theorem zPI_ofE {JR : zJR} {Yx Ym : zY} {cm sm : Nat} {as : List zVal} (sp : zSI → zSA → zSL → zRes)
    (hx : ∀ (fr : Nat) (M : zM) (I : zSI) (A : zSA) (L : zSL), 200 ≤ fr → RepX TRc JR M I A L → Val I A L → zCi Yx fr cm sm (zr (2, 0) :: as) M (fun x M' => zEX TRc JR M x (sp I A L) M'))
    (hm : ∀ (fr : Nat) (M : zM) (I J : zSI) (A : zSA) (L : zSL) (K : Int64), 200 ≤ fr → RepM M I A L J K → Val I A L → tE I A → zCi Ym fr 0 0 (zr (40, 0) :: as) M (fun x M' => zEM M x (sp I A L) M'))
    (hv : ∀ (I : zSI) (A : zSA) (L : zSL), Val I A L → tE I A → Val (sp I A L).2.1 (sp I A L).2.2.1 (sp I A L).2.2.2) : zPI (zInv TRc JR) Yx Ym cm sm as := by
  intro fr M hf ⟨I, A, L, J, K, hV, hX, hM⟩
  have hE := hX.tE hV
  refine ⟨⟨_, hX.1.1⟩, (hx fr M I A L hf hX hV).mono fun x M1 ⟨e1, f1, hX1⟩ => ?_⟩
  have hM1 := hM.frame (M' := M1) (fun a ha => f1 a (Or.inr ha))
  refine ⟨fun a ha => f1 a (Or.inl ha), ⟨_, hM1.1⟩, (hm fr M1 I J A L K hf hM1 hV hE).mono fun x2 M2 ⟨e2, f2, A', J', K', hA', hM2⟩ => ?_⟩
  exact ⟨e2.trans e1.symm, fun a ha => (f2 a (by omega)).trans (f1 a (Or.inl ha)), _, A', _, J', K', (hv I A L hV hE).congr hA', (hX1.frame (fun a _ h2 => f2 a h2)).congr hA', hM2⟩
set_option maxRecDepth 20000 in
set_option maxHeartbeats 4000000 in
theorem c11_saysOf {fr : Nat} {M : zM} {I J : zSI} {A : zSA} {L : zSL} {K : Int64} (hf : 46 ≤ fr) (hR : RepM M I A L J K) (h6 : 0 ≤ (I 6).toInt ∧ (I 6).toInt < (I 5).toInt ∧ (I 5).toInt ≤ 6) (hsz : ∀ t : Nat, t < 6 → zRg (A 20 t) 0 160) (hE : tE I A) {t k : Nat} (ht : t < 10) (he : 0 ≤ (A 13 t).toInt ∧ (A 13 t).toInt < 24) {tt pt : Int32} (htt : tt.toInt = (t : Int)) (hp : pt.toInt = (k : Int)) (hk : k < 3) : zCi zX11_saysOf fr 0 0 [zr (40, 0), zi tt, zi pt] M (fun x M' => x = sVal I A t k ∧ ∃ J' K', M' = zupd M (40, 0) (.inr (11, mObj I J' K'))) := by
  refine z_enter (L := [some (zr (40, 0)), some (zi tt), some (zi pt)]) rfl (by decide +kernel) (Nat.le_of_ble_eq_true rfl) ?_
  have e13 : (A 13 t).toInt = (zN (A 13 t) : Int) := by have e0 : zN (A 13 t) = (A 13 t).toInt.toNat := rfl; omega
  have b13 : zN (A 13 t) < 24 := by have e0 : zN (A 13 t) = (A 13 t).toInt.toNat := rfl; omega
  have e6 : (I 6).toInt = (zN (I 6) : Int) := by have e0 : zN (I 6) = (I 6).toInt.toNat := rfl; omega
  have b6 : zN (I 6) < 6 := by omega
  obtain ⟨hu, r, r1, r2, r3, q1, q2, q3, q4, q5⟩ := hE.2 (zN (I 6)) b6 (by omega)
  obtain ⟨z3, z4⟩ := hsz (zN (I 6)) b6
  have e20 : zN (A 20 (zN (I 6))) = (A 20 (zN (I 6))).toInt.toNat := rfl
  have n20 : A 20 (zN (I 6)) = nI (zN (A 20 (zN (I 6)))) := by
    rw [← Int32.toInt_inj, nI_toInt (by omega)]
    omega
  have hsv := sVal_of I A t k q1 q2 q3
  refine z_al iX11_saysOf_0 rfl ?_
  refine z_gf iX11_saysOf_1 hR.1 rfl ?_
  refine z_il iX11_saysOf_4 rfl ?_
  refine z_iald iX11_saysOf_5 (hR.2.1 13 (by decide)) htt ht ?_
  refine z_is iX11_saysOf_6 ?_
  refine z_al iX11_saysOf_7 rfl ?_
  refine z_al iX11_saysOf_8 rfl ?_
  refine z_gf iX11_saysOf_9 hR.1 rfl ?_
  refine z_il iX11_saysOf_12 rfl ?_
  refine z_iald iX11_saysOf_13 (hR.2.1 6 (by decide)) e13 b13 ?_
  refine z_pf iX11_saysOf_14 hR.1 (by decide) (Nat.le_of_ble_eq_true rfl) trivial ?_
  refine z_al iX11_saysOf_17 rfl ?_
  refine z_al iX11_saysOf_18 rfl ?_
  refine z_gf iX11_saysOf_19 zupd_s rfl ?_
  refine z_il iX11_saysOf_22 rfl ?_
  refine z_iald iX11_saysOf_23 ((zupd_k (Nat.ne_of_beq_eq_false rfl)).trans (hR.2.1 7 (by decide))) e13 b13 ?_
  refine z_pf2 iX11_saysOf_24 (by decide) (Nat.le_of_ble_eq_true rfl) trivial ?_
  refine z_al iX11_saysOf_27 rfl ?_
  refine z_al iX11_saysOf_28 rfl ?_
  refine z_gf iX11_saysOf_29 zupd_s rfl ?_
  refine z_il iX11_saysOf_32 rfl ?_
  refine z_iald iX11_saysOf_33 ((zupd_k (Nat.ne_of_beq_eq_false rfl)).trans (hR.2.1 8 (by decide))) e13 b13 ?_
  refine z_pf2 iX11_saysOf_34 (by decide) (Nat.le_of_ble_eq_true rfl) trivial ?_
  refine z_al iX11_saysOf_37 rfl ?_
  refine z_al iX11_saysOf_38 rfl ?_
  refine z_gf iX11_saysOf_39 zupd_s rfl ?_
  refine z_il iX11_saysOf_42 rfl ?_
  refine z_iald iX11_saysOf_43 ((zupd_k (Nat.ne_of_beq_eq_false rfl)).trans (hR.2.1 4 (by decide))) e13 b13 ?_
  refine z_pf2 iX11_saysOf_44 (by decide) (Nat.le_of_ble_eq_true rfl) trivial ?_
  refine z_al iX11_saysOf_47 rfl ?_
  refine z_al iX11_saysOf_48 rfl ?_
  refine z_gf iX11_saysOf_49 zupd_s rfl ?_
  refine z_il iX11_saysOf_52 rfl ?_
  refine z_iald iX11_saysOf_53 ((zupd_k (Nat.ne_of_beq_eq_false rfl)).trans (hR.2.1 16 (by decide))) htt ht ?_
  refine z_pf2 iX11_saysOf_54 (by decide) (Nat.le_of_ble_eq_true rfl) trivial ?_
  refine z_al iX11_saysOf_57 rfl ?_
  refine z_al iX11_saysOf_58 rfl ?_
  refine z_il iX11_saysOf_59 rfl ?_
  refine z_cv1i (fr' := fr - 1) iX11_saysOf_60 zmX11_nominal zupd_s (c11_nominal (J := (zup (zup (zup (zup (zup J 9 (A 6 (zN (A 13 t)))) 10 (A 7 (zN (A 13 t)))) 11 (A 8 (zN (A 13 t)))) 12 (A 4 (zN (A 13 t)))) 13 (A 16 t))) (K := K) (hR.obj (I' := I) (J' := (zup (zup (zup (zup (zup J 9 (A 6 (zN (A 13 t)))) 10 (A 7 (zN (A 13 t)))) 11 (A 8 (zN (A 13 t)))) 12 (A 4 (zN (A 13 t)))) 13 (A 16 t))) (K' := K) rfl) tt htt ht e13 b13) (by omega) (Nat.le_of_ble_eq_true rfl) (fun x M1 hq => ?_)
  obtain ⟨rfl, rfl⟩ := hq
  refine z_pf2 iX11_saysOf_63 (by decide) (Nat.le_of_ble_eq_true rfl) trivial ?_
  refine z_al iX11_saysOf_66 rfl ?_
  refine z_al iX11_saysOf_67 rfl ?_
  refine z_gf iX11_saysOf_68 zupd_s rfl ?_
  refine z_il iX11_saysOf_71 rfl ?_
  refine z_cv2i (fr' := fr - 1) iX11_saysOf_72 zmX11_read zupd_s (cm_read (J := (zup (zup (zup (zup (zup (zup J 9 (A 6 (zN (A 13 t)))) 10 (A 7 (zN (A 13 t)))) 11 (A 8 (zN (A 13 t)))) 12 (A 4 (zN (A 13 t)))) 13 (A 16 t)) 14 (zNom A t))) (K := K) (tkT_E (by omega)) b6 (by omega) hu q1 q2 q3 q4 (hR.obj (I' := I) (J' := (zup (zup (zup (zup (zup (zup J 9 (A 6 (zN (A 13 t)))) 10 (A 7 (zN (A 13 t)))) 11 (A 8 (zN (A 13 t)))) 12 (A 4 (zN (A 13 t)))) 13 (A 16 t)) 14 (zNom A t))) (K' := K) rfl) (by omega) e6 n20) (by omega) (Nat.le_of_ble_eq_true rfl) (fun x M1 hq => ?_)
  obtain ⟨J2, K2, hM2, -, -, hval⟩ := hq
  have hval := hval q5
  refine z_iret iX11_saysOf_75 rfl ?_
  refine ⟨_, rfl, ?_, J2, K2, ?_⟩
  · rw [hval, hsv]
    have ee : ∀ i, i < 6 → (zup (zup (zup (zup (zup (zup J 9 (A 6 (zN (A 13 t)))) 10 (A 7 (zN (A 13 t)))) 11 (A 8 (zN (A 13 t)))) 12 (A 4 (zN (A 13 t)))) 13 (A 16 t)) 14 (zNom A t)) (9 + i) = sEnv A t i := fun i hi => by
      rcases (show i = 0 ∨ i = 1 ∨ i = 2 ∨ i = 3 ∨ i = 4 ∨ i = 5 by omega) with rfl | rfl | rfl | rfl | rfl | rfl <;> rfl
    rcases (show k = 0 ∨ k = 1 ∨ k = 2 by omega) with rfl | rfl | rfl
    · rw [if_pos (by rw [← Int32.toInt_inj, hp]; rfl)]
      exact pvR_e ee 0
    · rw [if_neg (fun q => by rw [q] at hp; exact absurd hp (by decide)), if_pos (by rw [← Int32.toInt_inj, hp]; rfl)]
      exact pvR_e ee 1
    · rw [if_neg (fun q => by rw [q] at hp; exact absurd hp (by decide)), if_neg (fun q => by rw [q] at hp; exact absurd hp (by decide))]
      exact pvR_e ee 2
  · rw [hM2, zupd_u]
set_option maxRecDepth 20000 in
set_option maxHeartbeats 4000000 in
theorem l11_text {fr : Nat} {M : zM} {I J : zSI} {A : zSA} {L : zSL} {K : Int64} {Q : Option zVal → zM → Prop} (hR : RepM M I A L J K) (hV : Val I A L) (ht6 : zN (I 5) < 6) (KK : (zV zX11_text fr 0 0 49 (zL [some (zr (40, 0)), some (zi (nI (zN (I 7))))]) [] (zupd M (41, 19) (.inl (0, 960, .inl (fun j => if 160 * zN (I 5) ≤ j ∧ j < 160 * zN (I 5) + zN (I 7) then A 21 (j - 160 * zN (I 5)) else A 19 j)))) Q)) : ∀ (n i : Nat), i + n = zN (I 7) → zV zX11_text fr 0 0 14 (zL [some (zr (40, 0)), some (zi (nI i))]) [] (zupd M (41, 19) (.inl (0, 960, .inl (fun j => if 160 * zN (I 5) ≤ j ∧ j < 160 * zN (I 5) + i then A 21 (j - 160 * zN (I 5)) else A 19 j)))) Q := by
  intro n
  induction n with
  | zero =>
    intro i  hn 
    have h6 := zT6 hV
    have e160c : 160 * I 5 = nI (160 * zN (I 5)) := e160 h6.1 ht6
    have e4 := nI_toInt (n := 160 * zN (I 5)) (by omega)
    refine z_il iX11_text_14 rfl ?_
    refine z_al iX11_text_15 rfl ?_
    refine z_gf iX11_text_16 ((zupd_k (Nat.ne_of_beq_eq_false rfl)).trans hR.1) rfl ?_
    refine z_icmp_ge iX11_text_19 (fun h1 => ?_) (fun h1 => ?_)
    · have hi : i = zN (I 7) := by omega
      refine z_loc [some (zr (40, 0)), some (zi (nI i))] ⟨rfl, rfl, trivial⟩ ?_
      rw [hi]
      exact KK
    · exfalso
      have e1 := nI_toInt (n := i) (by omega)
      simp only [zi_le, e1] at h1
      omega
  | succ n ih =>
    intro i  hn 
    have h6 := zT6 hV
    have e160c : 160 * I 5 = nI (160 * zN (I 5)) := e160 h6.1 ht6
    have e4 := nI_toInt (n := 160 * zN (I 5)) (by omega)
    refine z_il iX11_text_14 rfl ?_
    refine z_al iX11_text_15 rfl ?_
    refine z_gf iX11_text_16 ((zupd_k (Nat.ne_of_beq_eq_false rfl)).trans hR.1) rfl ?_
    refine z_icmp_ge iX11_text_19 (fun h1 => ?_) (fun h1 => ?_)
    · exfalso
      have e1 := nI_toInt (n := i) (by omega)
      simp only [zi_le, e1] at h1
      omega
    · refine z_al iX11_text_22 rfl ?_
      refine z_gf iX11_text_23 ((zupd_k (Nat.ne_of_beq_eq_false rfl)).trans hR.1) rfl ?_
      refine z_co iX11_text_26 ?_
      refine z_al iX11_text_29 rfl ?_
      refine z_gf iX11_text_30 ((zupd_k (Nat.ne_of_beq_eq_false rfl)).trans hR.1) rfl ?_
      refine z_imul iX11_text_33 ?_
      refine z_il iX11_text_34 rfl ?_
      refine z_iadd iX11_text_35 ?_
      refine z_al iX11_text_36 rfl ?_
      refine z_gf iX11_text_37 ((zupd_k (Nat.ne_of_beq_eq_false rfl)).trans hR.1) rfl ?_
      refine z_il iX11_text_40 rfl ?_
      refine z_iald iX11_text_41 ((zupd_i (Nat.ne_of_beq_eq_false rfl)).trans (hR.2.1 21 (by decide))) (nI_toInt (n := i) (by omega)) (show i < 160 by omega) ?_
      refine z_iast2 iX11_text_42 (show 2 ≤ 41 by decide) (show (160 * I 5 + nI i).toInt = ((160 * zN (I 5) + i : Nat) : Int) by have e1 := nI_toInt (n := i) (by omega); rw [e160c, zadd (by omega) (by omega)]; omega) (show 160 * zN (I 5) + i < 960 by omega) ?_
      refine z_in iX11_text_43 rfl ?_
      refine z_goto iX11_text_46 ?_
      have ee : zup (fun j => if 160 * zN (I 5) ≤ j ∧ j < 160 * zN (I 5) + i then A 21 (j - 160 * zN (I 5)) else A 19 j) (160 * zN (I 5) + i) (A 21 i) = (fun j => if 160 * zN (I 5) ≤ j ∧ j < 160 * zN (I 5) + (i + 1) then A 21 (j - 160 * zN (I 5)) else A 19 j) := by
        funext j
        unfold zup
        by_cases z : j = 160 * zN (I 5) + i
        · rw [if_pos z, if_pos (by omega), z, Nat.add_sub_cancel_left]
        · rw [if_neg z]
          by_cases z2 : 160 * zN (I 5) ≤ j ∧ j < 160 * zN (I 5) + i
          · exact (if_pos z2).trans (if_pos (by omega)).symm
          · exact (if_neg z2).trans (if_neg (by omega)).symm
      rw [ee]
      refine z_loc [some (zr (40, 0)), some (zi (nI (i + 1)))] ⟨rfl, ?_, trivial⟩ (ih (i + 1) (by omega))
      show some (zi (nI i + 1)) = _
      rw [nI_1]
set_option maxRecDepth 20000 in
set_option maxHeartbeats 4000000 in
theorem t_text {fr : Nat} {M : zM} {I J : zSI} {A : zSA} {L : zSL} {K : Int64} (hf : 50 ≤ fr) (hR : RepM M I A L J K) (hV : Val I A L) {r r1 r2 r3 : pqS} (hRd : tRd I A r r1 r2 r3) (hsp : ∀ L, sp_text I A L = sp_textR I A L r) (hs20 : sA_text I A 20 (zN (I 5)) = nI (zN (I 7))) (hne : ¬ I 5 = 6) (ht6 : zN (I 5) < 6) (hu2 : ∀ j, j < zN (I 7) → 0 ≤ (zRow (sA_text I A) (zN (I 5)) j).toInt ∧ (zRow (sA_text I A) (zN (I 5)) j).toInt ≤ 255) : zV zX11_text fr 0 0 49 (zL [some (zr (40, 0)), some (zi (nI (zN (I 7))))]) [] (zupd M (41, 19) (.inl (0, 960, .inl (fun j => if 160 * zN (I 5) ≤ j ∧ j < 160 * zN (I 5) + zN (I 7) then A 21 (j - 160 * zN (I 5)) else A 19 j)))) (fun r M' => ∃ x, r = some (zi x) ∧ zEM M x (sp_text I A L) M') := by
  have h6 := zT6 hV
  refine z_al iX11_text_49 rfl ?_
  refine z_gf iX11_text_50 ((zupd_k (Nat.ne_of_beq_eq_false rfl)).trans hR.1) rfl ?_
  refine z_al iX11_text_53 rfl ?_
  refine z_gf iX11_text_54 ((zupd_k (Nat.ne_of_beq_eq_false rfl)).trans hR.1) rfl ?_
  refine z_al iX11_text_57 rfl ?_
  refine z_gf iX11_text_58 ((zupd_k (Nat.ne_of_beq_eq_false rfl)).trans hR.1) rfl ?_
  refine z_iast iX11_text_61 ((zupd_i (Nat.ne_of_beq_eq_false rfl)).trans (hR.2.1 20 (by decide))) (show 2 ≤ 41 by decide) h6.1 ht6 ?_
  refine z_al iX11_text_62 rfl ?_
  refine z_co iX11_text_63 ?_
  refine z_pf iX11_text_64 ((zupd_k (Nat.ne_of_beq_eq_false rfl)).trans ((zupd_k (Nat.ne_of_beq_eq_false rfl)).trans hR.1)) (by decide) (Nat.le_of_ble_eq_true rfl) trivial ?_
  have hR3 := ((hR.arr 19 (fun j => if 160 * zN (I 5) ≤ j ∧ j < 160 * zN (I 5) + zN (I 7) then A 21 (j - 160 * zN (I 5)) else A 19 j)).arr 20 (zup (A 20) (zN (I 5)) (I 7))).obj (I' := zup I 7 0) (J' := J) (K' := K) rfl
  refine z_mm (J' := J) (K' := K) (I := zup I 7 0) rfl ?_
  refine z_al iX11_text_67 rfl ?_
  refine z_al iX11_text_68 rfl ?_
  refine z_gf iX11_text_69 zupd_s rfl ?_
  refine z_co iX11_text_72 ?_
  refine z_cv2i (fr' := fr - 1) iX11_text_73 zmX11_read hR3.1 (cm_read (A := sA_text I A) (I := zup I 7 0) (L := L) (J := J) (K := K) (t := zN (I 5)) (n := zN (I 7)) (tkT_E (by omega)) ht6 (by omega) hu2 hRd.1 hRd.2.1 hRd.2.2.1 hRd.2.2.2 hR3 (by omega) h6.1 hs20) (by omega) (Nat.le_of_ble_eq_true rfl) (fun x M1 hq => ?_)
  obtain ⟨J2, K2, hM2, hj7, hj8, -⟩ := hq
  rw [zupd_u] at hM2
  subst hM2
  refine z_is iX11_text_76 ?_
  refine z_al iX11_text_77 rfl ?_
  refine z_gf iX11_text_78 zupd_s rfl ?_
  refine z_if_eq iX11_text_81 (fun h1 => ?_) (fun h1 => ?_)
  · refine z_al iX11_text_92 rfl ?_
    refine z_dup iX11_text_93 ?_
    refine z_gf iX11_text_94 zupd_s rfl ?_
    refine z_co iX11_text_97 ?_
    refine z_iadd iX11_text_98 ?_
    refine z_pf2 iX11_text_99 (by decide) (Nat.le_of_ble_eq_true rfl) trivial ?_
    refine z_al iX11_text_102 rfl ?_
    refine z_gf iX11_text_103 zupd_s rfl ?_
    refine z_co iX11_text_106 ?_
    refine z_isub iX11_text_107 ?_
    refine z_iret iX11_text_108 rfl ?_
    refine ⟨_, rfl, ?_⟩
    rw [hsp]
    unfold sp_textR
    rw [if_neg hne]
    have hbad : ¬ r.2.1 = true := fun z => by
      rw [if_pos z] at hj7
      rw [hj7] at h1
      exact absurd h1 (by decide)
    rw [if_neg hbad]
    refine ⟨zp1 _, fun a ha => (zupd_k (by omega)).trans ((zupd_k (by omega)).trans (zupd_k (by omega))), sA_text I A, J2, K2, fun _ _ => rfl, ?_⟩
    have h9 := hR3.obj (I' := zup (zup I 7 0) 5 (I 5 + 1)) (J' := J2) (K' := K2) rfl
    rwa [zupd_u] at h9
  · refine z_co iX11_text_84 ?_
    refine z_al iX11_text_86 rfl ?_
    refine z_gf iX11_text_87 zupd_s rfl ?_
    refine z_isub iX11_text_90 ?_
    refine z_iret iX11_text_91 rfl ?_
    refine ⟨_, rfl, ?_⟩
    rw [hsp]
    unfold sp_textR
    rw [if_neg hne]
    have hbad : r.2.1 = true := Decidable.byContradiction (fun z => h1 (hj7.trans (if_neg z)))
    rw [if_pos hbad, hj8 hbad]
    refine ⟨rfl, fun a ha => (zupd_k (by omega)).trans ((zupd_k (by omega)).trans (zupd_k (by omega))), sA_text I A, J2, K2, fun _ _ => rfl, ?_⟩
    have h9 := hR3.obj (I' := zup I 7 0) (J' := J2) (K' := K2) rfl
    rwa [zupd_u] at h9
set_option maxRecDepth 20000 in
set_option maxHeartbeats 4000000 in
theorem pm_text {fr : Nat} {M : zM} {I J : zSI} {A : zSA} {L : zSL} {K : Int64} (hf : 50 ≤ fr) (hR : RepM M I A L J K) (hV : Val I A L) (hE : tE I A) : zCi zX11_text fr 0 0 [zr (40, 0)] M (fun x M' => zEM M x (sp_text I A L) M') := by
  refine z_enter (L := [some (zr (40, 0))]) rfl (by decide +kernel) (Nat.le_of_ble_eq_true rfl) ?_
  have h6 := zT6 hV
  obtain ⟨r, r1, r2, r3, hRd, hsp⟩ := tRd_of I A
  have hs20 : sA_text I A 20 (zN (I 5)) = nI (zN (I 7)) := by
    rw [show sA_text I A 20 (zN (I 5)) = I 7 by simp [sA_text, zA2, zup], ← Int32.toInt_inj, nI_toInt (by omega)]
    exact h6.2.2.2.1
  refine z_al iX11_text_0 rfl ?_
  refine z_gf iX11_text_1 hR.1 rfl ?_
  refine z_co iX11_text_4 ?_
  refine z_icmp_ne iX11_text_6 (fun h1 => ?_) (fun h1 => ?_)
  · have hne : ¬ I 5 = 6 := by assumption
    have ht6 : zN (I 5) < 6 := by
      have : (I 5).toInt ≠ 6 := fun q => hne (Int32.toInt_inj.mp q)
      omega
    have hu2 : ∀ j, j < zN (I 7) → 0 ≤ (zRow (sA_text I A) (zN (I 5)) j).toInt ∧ (zRow (sA_text I A) (zN (I 5)) j).toInt ≤ 255 := fun j hj => by
      rw [zRow_text hV hj]
      exact hE.1 j hj
    refine z_co iX11_text_12 ?_
    refine z_is iX11_text_13 ?_
    refine z_loc [some (zr (40, 0)), some (zi (nI 0))] ⟨rfl, rfl, trivial⟩ ?_
    have h9 := l11_text (fr := fr) hR hV ht6 ?_ (zN (I 7)) 0 (by omega) (Q := (fun r M' => ∃ x, r = some (zi x) ∧ zEM M x (sp_text I A L) M'))
    · rw [show (fun j => if 160 * zN (I 5) ≤ j ∧ j < 160 * zN (I 5) + 0 then A 21 (j - 160 * zN (I 5)) else A 19 j) = A 19 from funext (fun j => if_neg (by omega)), zupd_same (show M (41, 19) = some (.inl (0, 960, .inl (A 19))) from hR.2.1 19 (by decide))] at h9
      exact h9
    · exact t_text hf hR hV hRd hsp hs20 hne ht6 hu2
  · refine z_co iX11_text_9 ?_
    refine z_iret iX11_text_11 rfl ?_
    refine ⟨_, rfl, ?_⟩
    rw [hsp]
    unfold sp_textR
    rw [if_pos (by assumption)]
    exact zEM.rd hR
theorem zp_text {JR : zJR} : zPI (zInv TRc JR) zX10_text zX11_text 0 0 [] :=
  zPI_ofE (fun I A L => sp_text I A L) (fun _ _ _ _ _ hf hX hV => px_text (by omega) hX hV) (fun _ _ _ _ _ _ _ hf hR hV hE => pm_text (by omega) hR hV hE) (fun I A L hV hE => by
    show Val (sp_text I A L).2.1 (sp_text I A L).2.2.1 (sp_text I A L).2.2.2
    obtain ⟨r, r1, r2, r3, -, hsp⟩ := tRd_of I A
    rw [hsp]
    unfold sp_textR
    have h6 := zT6 hV
    by_cases c1 : I 5 = 6
    · rw [if_pos c1]; exact hV
    · rw [if_neg c1]
      have hne : (I 5).toInt ≠ 6 := fun q => c1 (Int32.toInt_inj.mp q)
      obtain ⟨h1, h2, h3, h4, h5, h8, h9, h10⟩ := hV
      have r9 : ∀ k, k ≠ 19 → k ≠ 20 → sA_text I A k = A k := fun k a b => by
        unfold sA_text
        rw [zA2_row b, zup_n a]
      have g5 : ∀ t : Nat, t < 6 → zRg (sA_text I A 20 t) 0 160 := fun t ht => by
        by_cases z : t = zN (I 5)
        · rw [show sA_text I A 20 t = I 7 by simp [sA_text, zA2, zup, z]]
          exact h1.2.2.2.2.1
        · rw [show sA_text I A 20 t = A 20 t by unfold sA_text; rw [zA2_col z, zup_n (by decide)]]
          exact h5 t ht
      have base : ∀ I' : zSI, (∀ k, k ≠ 5 → k ≠ 7 → I' k = I k) → I' 7 = 0 → ((I' 5).toInt = (I 5).toInt ∨ (I' 5).toInt = (I 5).toInt + 1) → Val I' (sA_text I A) L := fun I' e1 e2 e3 => by
        have j0 := e1 0 (by decide) (by decide); have j1 := e1 1 (by decide) (by decide); have j8 := e1 8 (by decide) (by decide); have j9 := e1 9 (by decide) (by decide); have j6 := e1 6 (by decide) (by decide)
        obtain ⟨i1, i2, i3, i4, i5, i6, i7⟩ := h1
        obtain ⟨i31, i32⟩ := i3
        refine ⟨⟨by rw [j0]; exact i1, by rw [j1]; exact i2, ⟨by omega, by omega⟩, by rw [j6]; omega, by rw [e2]; exact ⟨by decide, by decide⟩, by rw [j8]; exact i6, by rw [j9]; exact i7⟩, ?_, ?_, ?_, g5, ?_, ?_, ?_⟩
        · rw [j0, r9 0 (by decide) (by decide), r9 4 (by decide) (by decide), r9 5 (by decide) (by decide), r9 11 (by decide) (by decide)]; exact h2
        · rw [j0, j1, j8, r9 13 (by decide) (by decide), r9 14 (by decide) (by decide), r9 17 (by decide) (by decide), r9 18 (by decide) (by decide), r9 23 (by decide) (by decide)]; exact h3
        · rw [j8, r9 23 (by decide) (by decide), r9 22 (by decide) (by decide)]; exact h4
        · rw [j9, r9 25 (by decide) (by decide)]; exact h8
        · rw [r9 26 (by decide) (by decide), r9 27 (by decide) (by decide), r9 28 (by decide) (by decide)]; exact h9
        · rw [j8, r9 24 (by decide) (by decide)]; exact h10
      by_cases c2 : r.2.1 = true
      · rw [if_pos c2]
        exact base (zup I 7 0) (fun k _ b => zup_n b) zup_s (Or.inl (congrArg Int32.toInt (show zup I 7 0 5 = I 5 from zup_n (by decide))))
      · rw [if_neg c2]
        refine base (zup (zup I 7 0) 5 (I 5 + 1)) (fun k a b => (zup_n a).trans (zup_n b)) ((zup_n (by decide)).trans zup_s) (Or.inr ?_)
        show (zup (zup I 7 0) 5 (I 5 + 1) 5).toInt = _
        rw [zup_s, zadd (by simp only [Int32.reduceToInt]; omega) (by simp only [Int32.reduceToInt]; omega)]
        rfl)
/-- the tools' edges and the rule, out of Val -/
theorem zRu {I : zSI} {A : zSA} {L : zSL} (hV : Val I A L) : (0 ≤ (I 6).toInt ∧ (I 6).toInt < (I 5).toInt ∧ (I 5).toInt ≤ 6) ∧ ∀ t : Nat, t < 6 → zRg (A 20 t) 0 160 := ⟨⟨hV.1.2.2.2.1.1, hV.1.2.2.2.1.2, hV.1.2.2.1.2⟩, hV.2.2.2.2.1⟩
def sp_saysV (I : zSI) (A : zSA) (t p : Int32) : Int64 := if zBw t 0 (I 1 - 1) ∧ zBw p 0 2 then (sVal I A (zN t) (zN p)).toInt64 else -4611686018427387904
set_option maxRecDepth 20000 in
set_option maxHeartbeats 4000000 in
theorem px_says {JR : zJR} {fr : Nat} {M : zM} {I : zSI} {A : zSA} {L : zSL} (hf : 10 ≤ fr) (hX : RepX TRc JR M I A L) (hV : Val I A L) (t p : Int32) : zCj zX10_says fr 0 0 [zr (2, 0), zi t, zi p] M (fun x M' => x = sp_saysV I A t p ∧ (∀ a : zAd, a.1 ≠ 12 → a.1 ≠ 13 → a.1 ≠ 22 → M' a = M a) ∧ RepX TRc JR M' I A L) := by
  refine z_enter (L := [some (zr (2, 0)), some (zi t), some (zi p)]) rfl (by decide +kernel) (Nat.le_of_ble_eq_true rfl) ?_
  refine z_al iX10_says_0 rfl ?_
  refine z_il iX10_says_1 rfl ?_
  refine z_cv1a (fr' := fr - 1) iX10_says_2 zmX10_toolOf hX.1.1 (c10_toolOf (by omega) hX hV _) (by omega) (Nat.le_of_ble_eq_true rfl) (fun x M1 hq => ?_)
  obtain ⟨rfl, rfl⟩ := hq
  refine z_as iX10_says_5 ?_
  refine z_alo iX10_says_6 rfl ?_
  refine z_ifnull iX10_says_7 (fun h1 => ?_) (fun x1 h1 => ?_)
  · refine z_cl iX10_says_19 ?_
    refine z_lret iX10_says_22 rfl ?_
    first | exact ⟨_, rfl, (if_neg (fun q => xo_n h1 q.1)).symm, fun _ _ _ _ => rfl, hX⟩ | exact ⟨_, rfl, (if_neg (fun q => h2 q.2)).symm, fun _ _ _ _ => rfl, hX⟩
  · rw [h1]
    obtain ⟨qh1, rfl⟩ := xo_s h1
    have htool := hX.2.2.1.1 _ (zIdx qh1 hV.1.2.1 (by decide)).2.1
    refine z_il iX10_says_10 rfl ?_
    refine z_co iX10_says_11 ?_
    refine z_co iX10_says_12 ?_
    refine z_cs3i (fr' := fr - 1) iX10_says_13 zmX10_within (c10_within _ _ _) (by omega) (Nat.le_of_ble_eq_true rfl) (fun x M1 hq => ?_)
    obtain ⟨rfl, rfl⟩ := hq
    refine z_ib_ne iX10_says_16 (fun h2 => ?_) (fun h2 => ?_)
    · refine z_al iX10_says_23 rfl ?_
      refine z_al iX10_says_24 rfl ?_
      refine z_il iX10_says_25 rfl ?_
      refine z_cv2i (fr' := fr - 1) iX10_says_26 zmX10_ruleFor hX.1.1 (c10_ruleFor (by omega) hX (zRu hV).1 (zRu hV).2 (zT10 hV qh1).2.2 (hV.2.2.1 _ (zT10 hV qh1).2.2).1 (zBn h2).1 (show zN p < 3 from (zBn h2).2)) (by omega) (Nat.le_of_ble_eq_true rfl) (fun x M1 hq => ?_)
      obtain ⟨rfl, hfr, hX2⟩ := hq
      refine z_i2l iX10_says_29 ?_
      refine z_lret iX10_says_30 rfl ?_
      refine ⟨_, rfl, (if_pos ⟨qh1, h2⟩).symm, hfr, hX2⟩
    · refine z_cl iX10_says_19 ?_
      refine z_lret iX10_says_22 rfl ?_
      first | exact ⟨_, rfl, (if_neg (fun q => xo_n h1 q.1)).symm, fun _ _ _ _ => rfl, hX⟩ | exact ⟨_, rfl, (if_neg (fun q => h2 q.2)).symm, fun _ _ _ _ => rfl, hX⟩
set_option maxRecDepth 20000 in
set_option maxHeartbeats 4000000 in
theorem pm_says {fr : Nat} {M : zM} {I J : zSI} {A : zSA} {L : zSL} {K : Int64} (hf : 50 ≤ fr) (hR : RepM M I A L J K) (hV : Val I A L) (hE : tE I A) (t p : Int32) : zCj zX11_says fr 0 0 [zr (40, 0), zi t, zi p] M (fun x M' => x = sp_saysV I A t p ∧ ∃ J' K', M' = zupd M (40, 0) (.inr (11, mObj I J' K'))) := by
  refine z_enter (L := [some (zr (40, 0)), some (zi t), some (zi p)]) rfl (by decide +kernel) (Nat.le_of_ble_eq_true rfl) ?_
  refine z_al iX11_says_0 rfl ?_
  refine z_il iX11_says_1 rfl ?_
  refine z_cv1i (fr' := fr - 1) iX11_says_2 zmX11_isTool hR.1 (c11_isTool (by omega) hR _) (by omega) (Nat.le_of_ble_eq_true rfl) (fun x M1 hq => ?_)
  obtain ⟨rfl, rfl⟩ := hq
  refine z_ib_eq iX11_says_5 (fun h1 => ?_) (fun h1 => ?_)
  · refine z_cl iX11_says_27 ?_
    refine z_lret iX11_says_30 rfl ?_
    first | exact ⟨_, rfl, (if_pos ⟨h1, h2⟩).symm, J2, K2, hM2⟩ | exact ⟨_, rfl, (if_neg (fun q => h2 q.2)).symm, J, K, (zupd_same hR.1).symm⟩ | exact ⟨_, rfl, (if_neg (fun q => h1 q.1)).symm, J, K, (zupd_same hR.1).symm⟩
  · refine z_il iX11_says_8 rfl ?_
    refine z_co iX11_says_9 ?_
    refine z_co iX11_says_10 ?_
    refine z_cs3i (fr' := fr - 1) iX11_says_11 zmX11_in (c11_in _ _ _) (by omega) (Nat.le_of_ble_eq_true rfl) (fun x M1 hq => ?_)
    obtain ⟨rfl, rfl⟩ := hq
    refine z_ib_eq iX11_says_14 (fun h2 => ?_) (fun h2 => ?_)
    · refine z_cl iX11_says_27 ?_
      refine z_lret iX11_says_30 rfl ?_
      first | exact ⟨_, rfl, (if_pos ⟨h1, h2⟩).symm, J2, K2, hM2⟩ | exact ⟨_, rfl, (if_neg (fun q => h2 q.2)).symm, J, K, (zupd_same hR.1).symm⟩ | exact ⟨_, rfl, (if_neg (fun q => h1 q.1)).symm, J, K, (zupd_same hR.1).symm⟩
    · refine z_al iX11_says_17 rfl ?_
      refine z_il iX11_says_18 rfl ?_
      refine z_il iX11_says_19 rfl ?_
      refine z_cv2i (fr' := fr - 1) iX11_says_20 zmX11_saysOf hR.1 (c11_saysOf (by omega) hR (zRu hV).1 (zRu hV).2 hE (zT10 hV h1).2.1 (by have := hV.1.1.2; have h9 := (hV.2.2.1 _ (zT10 hV h1).2.2).1; omega) (zT10 hV h1).1 (zBn h2).1 (show zN p < 3 from (zBn h2).2)) (by omega) (Nat.le_of_ble_eq_true rfl) (fun x M1 hq => ?_)
      obtain ⟨rfl, J2, K2, hM2⟩ := hq
      refine z_i2l iX11_says_23 ?_
      refine z_goto iX11_says_24 ?_
      refine z_lret iX11_says_30 rfl ?_
      first | exact ⟨_, rfl, (if_pos ⟨h1, h2⟩).symm, J2, K2, hM2⟩ | exact ⟨_, rfl, (if_neg (fun q => h2 q.2)).symm, J, K, (zupd_same hR.1).symm⟩ | exact ⟨_, rfl, (if_neg (fun q => h1 q.1)).symm, J, K, (zupd_same hR.1).symm⟩
theorem zp_says {JR : zJR} (t p : Int32) : zPJ (zInv TRc JR) zX10_says zX11_says 0 0 [zi t, zi p] := by
  intro fr M hf ⟨I, A, L, J, K, hV, hX, hM⟩
  have hE := hX.tE hV
  refine ⟨⟨_, hX.1.1⟩, (px_says (by omega) hX hV t p).mono fun x M1 ⟨e1, f1, hX1⟩ => ?_⟩
  have hM1 := hM.frame (M' := M1) (fun a ha => f1 a (by omega) (by omega) (by omega))
  refine ⟨fun a ha => f1 a (by omega) (by omega) (by omega), ⟨_, hM1.1⟩, (pm_says (by omega) hM1 hV hE t p).mono fun x2 M2 ⟨e2, J', K', hM2⟩ => ?_⟩
  refine ⟨e2.trans e1.symm, fun a ha => ?_, I, A, L, J', K', hV, ?_, ?_⟩
  · rw [hM2, zupd_k (by omega)]
    exact f1 a (by omega) (by omega) (by omega)
  · exact hX1.frame (fun a _ h2 => by rw [hM2, zupd_k (by omega)])
  · rw [hM2]
    exact hM1.obj rfl
