/-- the state behind a tool's coming into a magazine -/
def sA_put (A : zSA) (m t p : Int32) : zSA := zA2 (zA2 (zup A 24 (zFill (A 24) (16 * zN m + zN p) (zN (A 14 (zN t))) t)) 17 (zN t) m) 18 (zN t) p
def sp_put (I : zSI) (A : zSA) (L : zSL) (m t p : Int32) : zRes := if ¬ zBw m 0 (I 8 - 1) ∨ ¬ zBw t 0 (I 1 - 1) ∨ ¬ (0 ≤ p.toInt ∧ p.toInt < (A 23 (zN m)).toInt) then (-2, I, A, L) else if ¬ A 17 (zN t) = -1 ∨ ¬ zFree A (zN m) (zN t) (zN p) then (-3, I, A, L) else if sVal I A (zN t) 2 = 0 then (-3, I, A, L) else (1, I, sA_put A m t p, L)
theorem zP16 {I : zSI} {A : zSA} {L : zSL} (hV : Val I A L) {m p : Int32} (h : zBw m 0 (I 8 - 1)) (h2 : 0 ≤ p.toInt ∧ p.toInt < (A 23 (zN m)).toInt) : p.toInt = (zN p : Int) ∧ zN p < 16 := by
  obtain ⟨g1, g2⟩ := zPl hV h
  have := zPn h2.1
  omega
theorem zW3 {I : zSI} {A : zSA} {L : zSL} (hV : Val I A L) {t : Int32} (h : zBw t 0 (I 1 - 1)) : (A 14 (zN t)).toInt = (zN (A 14 (zN t)) : Int) ∧ zN (A 14 (zN t)) < 4 := by
  obtain ⟨⟨g1, g2⟩, g3⟩ := zWt hV h
  omega
set_option maxRecDepth 20000 in
set_option maxHeartbeats 4000000 in
theorem px_put {JR : zJR} {fr : Nat} {M : zM} {I : zSI} {A : zSA} {L : zSL} (hf : 10 ≤ fr) (hX : RepX TRc JR M I A L) (hV : Val I A L) (m t p : Int32) : zCi zX10_put fr 0 0 [zr (2, 0), zi m, zi t, zi p] M (fun x M' => zEX TRc JR M x (sp_put I A L m t p) M') := by
  refine z_enter (L := [some (zr (2, 0)), some (zi m), some (zi t), some (zi p)]) rfl (by decide +kernel) (Nat.le_of_ble_eq_true rfl) ?_
  refine z_al iX10_put_0 rfl ?_
  refine z_il iX10_put_1 rfl ?_
  refine z_cv1a (fr' := fr - 1) iX10_put_2 zmX10_machineOf hX.1.1 (c10_machineOf (by omega) hX hV _) (by omega) (Nat.le_of_ble_eq_true rfl) (fun x M1 hq => ?_)
  obtain ⟨rfl, rfl⟩ := hq
  refine z_as iX10_put_5 ?_
  refine z_al iX10_put_7 rfl ?_
  refine z_il iX10_put_8 rfl ?_
  refine z_cv1a (fr' := fr - 1) iX10_put_9 zmX10_toolOf hX.1.1 (c10_toolOf (by omega) hX hV _) (by omega) (Nat.le_of_ble_eq_true rfl) (fun x M1 hq => ?_)
  obtain ⟨rfl, rfl⟩ := hq
  refine z_as iX10_put_12 ?_
  refine z_alo iX10_put_14 rfl ?_
  refine z_ifnull iX10_put_16 (fun h1 => ?_) (fun x1 h1 => ?_)
  · refine z_co iX10_put_33 ?_
    refine z_iret iX10_put_35 rfl ?_
    refine ⟨_, rfl, ?_⟩
    unfold sp_put
    have hc : ¬ zBw m 0 (I 8 - 1) ∨ ¬ zBw t 0 (I 1 - 1) ∨ ¬ (0 ≤ p.toInt ∧ p.toInt < (A 23 (zN m)).toInt) := by
      first | exact Or.inl (xo_n h1) | exact Or.inr (Or.inl (xo_n h2)) | exact Or.inr (Or.inr h3)
    rw [if_pos hc]
    exact zEX.rd hX
  · rw [h1]
    obtain ⟨qh1, rfl⟩ := xo_s h1
    have hmach := (hX.2.2.2.1.1 _ (zIdx qh1 hV.1.2.2.2.2.2.1 (by decide)).2.1).1
    refine z_alo iX10_put_19 rfl ?_
    refine z_ifnull iX10_put_21 (fun h2 => ?_) (fun x2 h2 => ?_)
    · refine z_co iX10_put_33 ?_
      refine z_iret iX10_put_35 rfl ?_
      refine ⟨_, rfl, ?_⟩
      unfold sp_put
      have hc : ¬ zBw m 0 (I 8 - 1) ∨ ¬ zBw t 0 (I 1 - 1) ∨ ¬ (0 ≤ p.toInt ∧ p.toInt < (A 23 (zN m)).toInt) := by
        first | exact Or.inl (xo_n h1) | exact Or.inr (Or.inl (xo_n h2)) | exact Or.inr (Or.inr h3)
      rw [if_pos hc]
      exact zEX.rd hX
    · rw [h2]
      obtain ⟨qh2, rfl⟩ := xo_s h2
      have htool := hX.2.2.1.1 _ (zIdx qh2 hV.1.2.1 (by decide)).2.1
      obtain ⟨fm, hheld, hfm⟩ := (hX.2.2.2.1.1 _ (zIdx qh1 hV.1.2.2.2.2.2.1 (by decide)).2.1).2
      refine z_al iX10_put_24 rfl ?_
      refine z_il iX10_put_26 rfl ?_
      refine z_cv1i (fr' := fr - 1) iX10_put_27 zmX2_hasPlace hmach (c2_hasPlace (zPl hV qh1) hmach _) (by omega) (Nat.le_of_ble_eq_true rfl) (fun x M1 hq => ?_)
      obtain ⟨rfl, rfl⟩ := hq
      refine z_ib_ne iX10_put_30 (fun h3 => ?_) (fun h3 => ?_)
      · refine z_al iX10_put_36 rfl ?_
        refine z_gf iX10_put_38 htool rfl ?_
        refine z_co iX10_put_41 ?_
        refine z_icmp_ne iX10_put_42 (fun h4 => ?_) (fun h4 => ?_)
        · refine z_co iX10_put_59 ?_
          refine z_iret iX10_put_61 rfl ?_
          refine ⟨_, rfl, ?_⟩
          unfold sp_put
          rw [if_neg (fun q => q.elim (fun z => z qh1) (fun z => z.elim (fun z => z qh2) (fun z => z h3)))]
          have hc : ¬ A 17 (zN t) = -1 ∨ ¬ zFree A (zN m) (zN t) (zN p) := by
            first | exact Or.inl h4 | exact Or.inr (fun q => h5 ((zFree_x (zWt hV qh2).1 (zPl hV qh1) hfm).mp q))
          rw [if_pos hc]
          exact zEX.rd hX
        · refine z_al iX10_put_45 rfl ?_
          refine z_il iX10_put_47 rfl ?_
          refine z_al iX10_put_48 rfl ?_
          refine z_gf iX10_put_50 htool rfl ?_
          refine z_cv2i (fr' := fr - 1) iX10_put_53 zmX2_hasRoom hmach (c2_hasRoom (P := zN p) (S := zN (A 14 (zN t))) (zPl hV qh1) hmach hheld (by omega) _ _ (zP16 hV qh1 h3).1 (by have := (zP16 hV qh1 h3).2; omega) (zW3 hV qh2).1 (by have := (zW3 hV qh2).2; omega)) (by omega) (Nat.le_of_ble_eq_true rfl) (fun x M1 hq => ?_)
          obtain ⟨rfl, rfl⟩ := hq
          refine z_ib_ne iX10_put_56 (fun h5 => ?_) (fun h5 => ?_)
          · have hfree : zFree A (zN m) (zN t) (zN p) := (zFree_x (zWt hV qh2).1 (zPl hV qh1) hfm).mpr h5
            refine z_al iX10_put_62 rfl ?_
            refine z_al iX10_put_63 rfl ?_
            refine z_co iX10_put_65 ?_
            refine z_cv2i (fr' := fr - 1) iX10_put_66 zmX10_ruleFor hX.1.1 (c10_ruleFor (k := 2) (by omega) hX (zRu hV).1 (zRu hV).2 (zT10 hV qh2).2.2 (hV.2.2.1 _ (zT10 hV qh2).2.2).1 rfl (by decide)) (by omega) (Nat.le_of_ble_eq_true rfl) (fun x M1 hq => ?_)
            obtain ⟨hxe, hfr, hX2⟩ := hq
            have hfx : ∀ a : zAd, (a.1 < 2 ∨ 40 ≤ a.1) → M1 a = _ := fun a ha => hfr a (by omega) (by omega) (by omega)
            have hmach := (hfr (31, zN m) (show (31 : Nat) ≠ 12 by decide) (show (31 : Nat) ≠ 13 by decide) (show (31 : Nat) ≠ 22 by decide)).trans hmach
            have htool := (hfr (30, zN t) (show (30 : Nat) ≠ 12 by decide) (show (30 : Nat) ≠ 13 by decide) (show (30 : Nat) ≠ 22 by decide)).trans htool
            have hheld := (hfr (32, zN m) (show (32 : Nat) ≠ 12 by decide) (show (32 : Nat) ≠ 13 by decide) (show (32 : Nat) ≠ 22 by decide)).trans hheld
            refine z_if_ne iX10_put_69 (fun h6 => ?_) (fun h6 => ?_)
            · refine z_al iX10_put_75 rfl ?_
              refine z_il iX10_put_77 rfl ?_
              refine z_al iX10_put_78 rfl ?_
              refine z_gf iX10_put_80 htool rfl ?_
              refine z_il iX10_put_83 rfl ?_
              refine z_cv3v (fr' := fr - 1) iX10_put_84 zmX2_hold hmach (c2_hold (P := zN p) (S := zN (A 14 (zN t))) (zPl hV qh1) (show 2 ≤ 32 by decide) (show (31 : Nat) ≠ 32 by decide) hmach hheld (by omega) _ _ _ (zP16 hV qh1 h3).1 (zW3 hV qh2).1 (hfree.1)) (by omega) (Nat.le_of_ble_eq_true rfl) (fun M1 hq => ?_)
              obtain rfl := hq
              refine z_al iX10_put_87 rfl ?_
              refine z_il iX10_put_89 rfl ?_
              refine z_pf iX10_put_90 ((zupd_k (Nat.ne_of_beq_eq_false rfl)).trans htool) (by decide : 2 ≤ 30) (Nat.le_of_ble_eq_true rfl) trivial ?_
              refine z_al iX10_put_93 rfl ?_
              refine z_il iX10_put_95 rfl ?_
              refine z_pf2 iX10_put_96 (by decide : 2 ≤ 30) (Nat.le_of_ble_eq_true rfl) trivial ?_
              refine z_co iX10_put_99 ?_
              refine z_iret iX10_put_100 rfl ?_
              refine ⟨_, rfl, ?_⟩
              unfold sp_put
              rw [if_neg (fun q => q.elim (fun z => z qh1) (fun z => z.elim (fun z => z qh2) (fun z => z h3)))]
              rw [if_neg (fun q => q.elim (fun z => z h4) (fun z => z hfree)), ← hxe]
              rw [if_neg h6]
              have k7 := zPl hV qh1
              have k6 := k7.2
              have k2 := zM3 hV qh1
              have k8 := hfree.1
              have e1 : zN (A 23 (zN m)) = (A 23 (zN m)).toInt.toNat := rfl
              refine ⟨rfl, fun a ha => (zupd_k (by omega)).trans ((zupd_k (by omega)).trans (hfx a ha)), ?_⟩
              refine RepX.tool (A := zup A 24 (zFill (A 24) (16 * zN m + zN p) (zN (A 14 (zN t))) t)) (hX2.held (A' := zup A 24 (zFill (A 24) (16 * zN m + zN p) (zN (A 14 (zN t))) t)) k2.2.2 (fun j hj => ?_) (fun k h1 h2 => zup_n h2) (fun j hj => ?_)) (zIdx qh2 hV.1.2.1 (by decide)).2.1 (by simp [xTool, sA_put, zA2, zup]) (fun k g1 g2 => ?_) (fun k g1 g3 j g2 => ?_)
              · rw [zup_s]
                by_cases z : zN p ≤ j ∧ j < zN p + zN (A 14 (zN t))
                · rw [zFill_s z, zFill_s (by omega)]
                · rw [zFill_n z, zFill_n (by omega)]; exact hfm j hj
              · rw [zup_s, zFill_n (by omega)]
              · exact (zA2_row (show k ≠ 18 by omega)).trans (zA2_row (show k ≠ 17 by omega))
              · exact (zA2_col g2).trans (zA2_col g2)
            · refine z_co iX10_put_72 ?_
              refine z_iret iX10_put_74 rfl ?_
              refine ⟨_, rfl, ?_⟩
              unfold sp_put
              rw [if_neg (fun q => q.elim (fun z => z qh1) (fun z => z.elim (fun z => z qh2) (fun z => z h3)))]
              rw [if_neg (fun q => q.elim (fun z => z h4) (fun z => z hfree)), ← hxe]
              rw [if_pos h6]
              exact ⟨rfl, hfx, hX2⟩
          · refine z_co iX10_put_59 ?_
            refine z_iret iX10_put_61 rfl ?_
            refine ⟨_, rfl, ?_⟩
            unfold sp_put
            rw [if_neg (fun q => q.elim (fun z => z qh1) (fun z => z.elim (fun z => z qh2) (fun z => z h3)))]
            have hc : ¬ A 17 (zN t) = -1 ∨ ¬ zFree A (zN m) (zN t) (zN p) := by
              first | exact Or.inl h4 | exact Or.inr (fun q => h5 ((zFree_x (zWt hV qh2).1 (zPl hV qh1) hfm).mp q))
            rw [if_pos hc]
            exact zEX.rd hX
      · refine z_co iX10_put_33 ?_
        refine z_iret iX10_put_35 rfl ?_
        refine ⟨_, rfl, ?_⟩
        unfold sp_put
        have hc : ¬ zBw m 0 (I 8 - 1) ∨ ¬ zBw t 0 (I 1 - 1) ∨ ¬ (0 ≤ p.toInt ∧ p.toInt < (A 23 (zN m)).toInt) := by
          first | exact Or.inl (xo_n h1) | exact Or.inr (Or.inl (xo_n h2)) | exact Or.inr (Or.inr h3)
        rw [if_pos hc]
        exact zEX.rd hX
set_option maxRecDepth 20000 in
set_option maxHeartbeats 4000000 in
theorem l11_put {fr : Nat} {M0 : zM} {I J2 : zSI} {A : zSA} {L : zSL} {K2 : Int64} (hV : Val I A L) {m t p : Int32} (hm : zBw m 0 (I 8 - 1)) (ht : zBw t 0 (I 1 - 1)) (hp : 0 ≤ p.toInt ∧ p.toInt < (A 23 (zN m)).toInt) (h17 : A 17 (zN t) = -1) (hfree : zFree A (zN m) (zN t) (zN p)) (hv : ¬ sVal I A (zN t) 2 = 0) : ∀ (n i : Nat) (M : zM), i + n = zN (A 14 (zN t)) → RepM M I (zup A 24 (zFill (A 24) (16 * zN m + zN p) i t)) L J2 K2 → (∀ a : zAd, a.1 < 40 → M a = M0 a) → zV zX11_put fr 0 0 70 (zL [some (zr (40, 0)), some (zi m), some (zi t), some (zi p), some (zi (nI i))]) [] M (fun r M' => ∃ x, r = some (zi x) ∧ zEM M0 x (sp_put I A L m t p) M') := by
  intro n
  induction n with
  | zero =>
    intro i M hn hR hfr
    have k2 := zM3 hV hm
    have k3 := zP16 hV hm hp
    have k4 := zW3 hV ht
    obtain ⟨k5, k6⟩ := zPl hV hm
    have k7 := hfree.1
    have e1 : zN (A 23 (zN m)) = (A 23 (zN m)).toInt.toNat := rfl
    refine z_il iX11_put_70 rfl ?_
    refine z_al iX11_put_72 rfl ?_
    refine z_gf iX11_put_73 hR.1 rfl ?_
    refine z_il iX11_put_76 rfl ?_
    refine z_iald iX11_put_77 (hR.2.1 14 (by decide)) (zT10 hV ht).1 (zT10 hV ht).2.1 ?_
    refine z_icmp_ge iX11_put_78 (fun h1 => ?_) (fun h1 => ?_)
    · refine z_al iX11_put_102 rfl ?_
      refine z_gf iX11_put_103 hR.1 rfl ?_
      refine z_il iX11_put_106 rfl ?_
      refine z_il iX11_put_107 rfl ?_
      refine z_iast iX11_put_108 (hR.2.1 17 (by decide)) (show 2 ≤ 41 by decide) (zT10 hV ht).1 (zT10 hV ht).2.1 ?_
      refine z_al iX11_put_109 rfl ?_
      refine z_gf iX11_put_110 ((zupd_k (Nat.ne_of_beq_eq_false rfl)).trans hR.1) rfl ?_
      refine z_il iX11_put_113 rfl ?_
      refine z_il iX11_put_114 rfl ?_
      refine z_iast iX11_put_115 ((zupd_i (Nat.ne_of_beq_eq_false rfl)).trans (hR.2.1 18 (by decide))) (show 2 ≤ 41 by decide) (zT10 hV ht).1 (zT10 hV ht).2.1 ?_
      refine z_co iX11_put_116 ?_
      refine z_iret iX11_put_117 rfl ?_
      refine ⟨_, rfl, ?_⟩
      unfold sp_put
      rw [if_neg (fun q => q.elim (fun z => z hm) (fun z => z.elim (fun z => z ht) (fun z => z hp))), if_neg (fun q => q.elim (fun z => z h17) (fun z => z hfree)), if_neg hv]
      have hi : i = zN (A 14 (zN t)) := by omega
      rw [hi] at hR
      exact ⟨rfl, fun a ha => (zupd_k (by omega)).trans ((zupd_k (by omega)).trans (hfr a ha)), sA_put A m t p, J2, K2, fun _ _ => rfl, ((hR.arr 17 (zup (A 17) (zN t) m)).arr 18 (zup (A 18) (zN t) p)).cast rfl rfl⟩
    · exact absurd (zi_le.mpr (by rw [nI_toInt (by omega)]; show (A 14 (zN t)).toInt ≤ _; omega)) h1
  | succ n ih =>
    intro i M hn hR hfr
    have k2 := zM3 hV hm
    have k3 := zP16 hV hm hp
    have k4 := zW3 hV ht
    obtain ⟨k5, k6⟩ := zPl hV hm
    have k7 := hfree.1
    have e1 : zN (A 23 (zN m)) = (A 23 (zN m)).toInt.toNat := rfl
    refine z_il iX11_put_70 rfl ?_
    refine z_al iX11_put_72 rfl ?_
    refine z_gf iX11_put_73 hR.1 rfl ?_
    refine z_il iX11_put_76 rfl ?_
    refine z_iald iX11_put_77 (hR.2.1 14 (by decide)) (zT10 hV ht).1 (zT10 hV ht).2.1 ?_
    refine z_icmp_ge iX11_put_78 (fun h1 => ?_) (fun h1 => ?_)
    · exfalso
      have z1 : A 14 (zN t) ≤ nI i := h1
      rw [zi_le, nI_toInt (by omega)] at z1
      omega
    · refine z_al iX11_put_81 rfl ?_
      refine z_gf iX11_put_82 hR.1 rfl ?_
      refine z_co iX11_put_85 ?_
      refine z_il iX11_put_87 rfl ?_
      refine z_imul iX11_put_88 ?_
      refine z_il iX11_put_89 rfl ?_
      refine z_iadd iX11_put_90 ?_
      refine z_il iX11_put_91 rfl ?_
      refine z_iadd iX11_put_93 ?_
      refine z_il iX11_put_94 rfl ?_
      refine z_iast iX11_put_95 (hR.2.1 24 (by decide)) (show 2 ≤ 41 by decide) (zaddN (zLin (C := 16) rfl k2.1 k3.1 (by omega)) (by omega) (by omega)) (show 16 * zN m + zN p + i < 48 by omega) ?_
      refine z_in iX11_put_96 rfl ?_
      refine z_goto iX11_put_99 ?_
      have hR2 := hR.arr 24 (zup (zFill (A 24) (16 * zN m + zN p) i t) (16 * zN m + zN p + i) t)
      refine z_loc [some (zr (40, 0)), some (zi m), some (zi t), some (zi p), some (zi (nI (i + 1)))] ⟨rfl, rfl, rfl, rfl, ?_, trivial⟩ (ih (i + 1) _ (by omega) (hR2.cast rfl (by rw [zFill_1, zup_u])) (fun a ha => (zupd_k (by omega)).trans (hfr a ha)))
      show some (zi (nI i + 1)) = _
      rw [nI_1]
set_option maxRecDepth 20000 in
set_option maxHeartbeats 4000000 in
theorem pm_put {fr : Nat} {M : zM} {I J : zSI} {A : zSA} {L : zSL} {K : Int64} (hf : 50 ≤ fr) (hR : RepM M I A L J K) (hV : Val I A L) (hE : tE I A) (m t p : Int32) : zCi zX11_put fr 0 0 [zr (40, 0), zi m, zi t, zi p] M (fun x M' => zEM M x (sp_put I A L m t p) M') := by
  refine z_enter (L := [some (zr (40, 0)), some (zi m), some (zi t), some (zi p)]) rfl (by decide +kernel) (Nat.le_of_ble_eq_true rfl) ?_
  refine z_al iX11_put_0 rfl ?_
  refine z_il iX11_put_1 rfl ?_
  refine z_cv1i (fr' := fr - 1) iX11_put_2 zmX11_isMachine hR.1 (c11_isMachine (by omega) hR _) (by omega) (Nat.le_of_ble_eq_true rfl) (fun x M1 hq => ?_)
  obtain ⟨rfl, rfl⟩ := hq
  refine z_ib_eq iX11_put_5 (fun h1 => ?_) (fun h1 => ?_)
  · refine z_co iX11_put_32 ?_
    refine z_iret iX11_put_34 rfl ?_
    refine ⟨_, rfl, ?_⟩
    unfold sp_put
    have hc : ¬ zBw m 0 (I 8 - 1) ∨ ¬ zBw t 0 (I 1 - 1) ∨ ¬ (0 ≤ p.toInt ∧ p.toInt < (A 23 (zN m)).toInt) := by
      first | exact Or.inl h1 | exact Or.inr (Or.inl h2) | exact Or.inr (Or.inr (fun q => h3 ((zPb hV h1).mpr q)))
    rw [if_pos hc]
    exact zEM.rd hR
  · refine z_al iX11_put_8 rfl ?_
    refine z_il iX11_put_9 rfl ?_
    refine z_cv1i (fr' := fr - 1) iX11_put_10 zmX11_isTool hR.1 (c11_isTool (by omega) hR _) (by omega) (Nat.le_of_ble_eq_true rfl) (fun x M1 hq => ?_)
    obtain ⟨rfl, rfl⟩ := hq
    refine z_ib_eq iX11_put_13 (fun h2 => ?_) (fun h2 => ?_)
    · refine z_co iX11_put_32 ?_
      refine z_iret iX11_put_34 rfl ?_
      refine ⟨_, rfl, ?_⟩
      unfold sp_put
      have hc : ¬ zBw m 0 (I 8 - 1) ∨ ¬ zBw t 0 (I 1 - 1) ∨ ¬ (0 ≤ p.toInt ∧ p.toInt < (A 23 (zN m)).toInt) := by
        first | exact Or.inl h1 | exact Or.inr (Or.inl h2) | exact Or.inr (Or.inr (fun q => h3 ((zPb hV h1).mpr q)))
      rw [if_pos hc]
      exact zEM.rd hR
    · refine z_il iX11_put_16 rfl ?_
      refine z_co iX11_put_17 ?_
      refine z_al iX11_put_18 rfl ?_
      refine z_gf iX11_put_19 hR.1 rfl ?_
      refine z_il iX11_put_22 rfl ?_
      refine z_iald iX11_put_23 (hR.2.1 23 (by decide)) (zM3 hV h1).1 (zM3 hV h1).2.1 ?_
      refine z_co iX11_put_24 ?_
      refine z_isub iX11_put_25 ?_
      refine z_cs3i (fr' := fr - 1) iX11_put_26 zmX11_in (c11_in _ _ _) (by omega) (Nat.le_of_ble_eq_true rfl) (fun x M1 hq => ?_)
      obtain ⟨rfl, rfl⟩ := hq
      refine z_ib_ne iX11_put_29 (fun h3 => ?_) (fun h3 => ?_)
      · have hp := (zPb hV h1).mp h3
        refine z_al iX11_put_35 rfl ?_
        refine z_gf iX11_put_36 hR.1 rfl ?_
        refine z_il iX11_put_39 rfl ?_
        refine z_iald iX11_put_40 (hR.2.1 17 (by decide)) (zT10 hV h2).1 (zT10 hV h2).2.1 ?_
        refine z_co iX11_put_41 ?_
        refine z_icmp_ne iX11_put_42 (fun h4 => ?_) (fun h4 => ?_)
        · refine z_co iX11_put_64 ?_
          refine z_iret iX11_put_66 rfl ?_
          refine ⟨_, rfl, ?_⟩
          unfold sp_put
          rw [if_neg (fun q => q.elim (fun z => z h1) (fun z => z.elim (fun z => z h2) (fun z => z hp)))]
          first
          | (rw [if_pos (Or.inl h4)]; exact zEM.rd hR)
          | (rw [if_pos (Or.inr h5)]; exact zEM.rd hR)
          | (rw [if_neg (fun q => q.elim (fun z => z h4) (fun z => z h5)), ← hxe, if_pos h6]; exact ⟨rfl, fun a ha => by rw [hM2, zupd_k (by omega)], A, J2, K2, fun _ _ => rfl, hR2⟩)
        · refine z_al iX11_put_45 rfl ?_
          refine z_il iX11_put_46 rfl ?_
          refine z_il iX11_put_47 rfl ?_
          refine z_il iX11_put_48 rfl ?_
          refine z_cv3i (fr' := fr - 1) iX11_put_49 zmX11_isFree hR.1 (c11_isFree hR _ _ _ (zM3 hV h1).1 (zM3 hV h1).2.1 (zT10 hV h2).1 (zT10 hV h2).2.1 (zP16 hV h1 hp).1 (by have := (zP16 hV h1 hp).2; omega) (zWt hV h2).1 (zPl hV h1)) (by omega) (Nat.le_of_ble_eq_true rfl) (fun x M1 hq => ?_)
          obtain ⟨rfl, rfl⟩ := hq
          refine z_ib_eq iX11_put_52 (fun h5 => ?_) (fun h5 => ?_)
          · refine z_co iX11_put_64 ?_
            refine z_iret iX11_put_66 rfl ?_
            refine ⟨_, rfl, ?_⟩
            unfold sp_put
            rw [if_neg (fun q => q.elim (fun z => z h1) (fun z => z.elim (fun z => z h2) (fun z => z hp)))]
            first
            | (rw [if_pos (Or.inl h4)]; exact zEM.rd hR)
            | (rw [if_pos (Or.inr h5)]; exact zEM.rd hR)
            | (rw [if_neg (fun q => q.elim (fun z => z h4) (fun z => z h5)), ← hxe, if_pos h6]; exact ⟨rfl, fun a ha => by rw [hM2, zupd_k (by omega)], A, J2, K2, fun _ _ => rfl, hR2⟩)
          · refine z_al iX11_put_55 rfl ?_
            refine z_il iX11_put_56 rfl ?_
            refine z_co iX11_put_57 ?_
            refine z_cv2i (fr' := fr - 1) iX11_put_58 zmX11_saysOf hR.1 (c11_saysOf (k := 2) (by omega) hR (zRu hV).1 (zRu hV).2 hE (zT10 hV h2).2.1 (by have := hV.1.1.2; have h9 := (hV.2.2.1 _ (zT10 hV h2).2.2).1; omega) (zT10 hV h2).1 rfl (by decide)) (by omega) (Nat.le_of_ble_eq_true rfl) (fun x M1 hq => ?_)
            obtain ⟨hxe, J2, K2, hM2⟩ := hq
            have hR2 : RepM M1 I A L J2 K2 := by rw [hM2]; exact hR.obj rfl
            refine z_if_ne iX11_put_61 (fun h6 => ?_) (fun h6 => ?_)
            · refine z_co iX11_put_67 ?_
              refine z_is iX11_put_68 ?_
              refine z_loc [some (zr (40, 0)), some (zi m), some (zi t), some (zi p), some (zi (nI 0))] ⟨rfl, rfl, rfl, rfl, rfl, trivial⟩ ?_
              exact l11_put hV h1 h2 hp h4 h5 (by rw [← hxe]; exact h6) (zN (A 14 (zN t))) 0 _ (by omega) (by rw [zFill_0, zupA_id]; exact hR2) (fun a ha => by rw [hM2, zupd_k (by omega)])
            · refine z_co iX11_put_64 ?_
              refine z_iret iX11_put_66 rfl ?_
              refine ⟨_, rfl, ?_⟩
              unfold sp_put
              rw [if_neg (fun q => q.elim (fun z => z h1) (fun z => z.elim (fun z => z h2) (fun z => z hp)))]
              first
              | (rw [if_pos (Or.inl h4)]; exact zEM.rd hR)
              | (rw [if_pos (Or.inr h5)]; exact zEM.rd hR)
              | (rw [if_neg (fun q => q.elim (fun z => z h4) (fun z => z h5)), ← hxe, if_pos h6]; exact ⟨rfl, fun a ha => by rw [hM2, zupd_k (by omega)], A, J2, K2, fun _ _ => rfl, hR2⟩)
      · refine z_co iX11_put_32 ?_
        refine z_iret iX11_put_34 rfl ?_
        refine ⟨_, rfl, ?_⟩
        unfold sp_put
        have hc : ¬ zBw m 0 (I 8 - 1) ∨ ¬ zBw t 0 (I 1 - 1) ∨ ¬ (0 ≤ p.toInt ∧ p.toInt < (A 23 (zN m)).toInt) := by
          first | exact Or.inl h1 | exact Or.inr (Or.inl h2) | exact Or.inr (Or.inr (fun q => h3 ((zPb hV h1).mpr q)))
        rw [if_pos hc]
        exact zEM.rd hR
