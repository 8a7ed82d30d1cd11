/-- how a call of the model's ends, all rows told -/
def zEMx (M : zM) (x : Int32) (r : zRes) (M' : zM) : Prop := x = r.1 ∧ (∀ a : zAd, a.1 < 40 → M' a = M a) ∧ ∃ J' K', RepM M' r.2.1 r.2.2.1 r.2.2.2 J' K'
theorem zEMx.em {M M' : zM} {x : Int32} {r : zRes} (h : zEMx M x r M') : zEM M x r M' := by
  obtain ⟨h1, h2, J', K', h3⟩ := h
  exact ⟨h1, h2, _, _, _, fun _ _ => rfl, h3⟩
set_option maxRecDepth 20000 in
set_option maxHeartbeats 4000000 in
theorem c11_isCut {fr : Nat} {M : zM} (hf : 1 ≤ fr) (fa c s : Int32) : zCi zX11_isCut fr 0 0 [zi fa, zi c, zi s] M (fun x M' => M' = M ∧ x = zbo (zBw fa 0 9 ∧ zBw c 1 99 ∧ zBw s 1 20)) := by
  refine z_enter (L := [some (zi fa), some (zi c), some (zi s)]) rfl (by decide +kernel) (Nat.le_of_ble_eq_true rfl) ?_
  refine z_il iX11_isCut_0 rfl ?_
  refine z_co iX11_isCut_1 ?_
  refine z_co iX11_isCut_2 ?_
  refine z_cs3i (fr' := fr - 1) iX11_isCut_4 zmX11_in (c11_in _ _ _) (by omega) (Nat.le_of_ble_eq_true rfl) (fun x M1 hq => ?_)
  obtain ⟨rfl, rfl⟩ := hq
  refine z_ib_eq iX11_isCut_7 (fun h1 => ?_) (fun h1 => ?_)
  · refine z_co iX11_isCut_34 ?_
    refine z_zret iX11_isCut_35 rfl rfl ?_
    first | exact ⟨_, rfl, rfl, (zbo_1 ⟨h1, h2, h3⟩).symm⟩ | exact ⟨_, rfl, rfl, (zbo_0 (fun q => h1 q.1)).symm⟩ | exact ⟨_, rfl, rfl, (zbo_0 (fun q => h2 q.2.1)).symm⟩ | exact ⟨_, rfl, rfl, (zbo_0 (fun q => h3 q.2.2)).symm⟩
  · refine z_il iX11_isCut_10 rfl ?_
    refine z_co iX11_isCut_11 ?_
    refine z_co iX11_isCut_12 ?_
    refine z_cs3i (fr' := fr - 1) iX11_isCut_14 zmX11_in (c11_in _ _ _) (by omega) (Nat.le_of_ble_eq_true rfl) (fun x M1 hq => ?_)
    obtain ⟨rfl, rfl⟩ := hq
    refine z_ib_eq iX11_isCut_17 (fun h2 => ?_) (fun h2 => ?_)
    · refine z_co iX11_isCut_34 ?_
      refine z_zret iX11_isCut_35 rfl rfl ?_
      first | exact ⟨_, rfl, rfl, (zbo_1 ⟨h1, h2, h3⟩).symm⟩ | exact ⟨_, rfl, rfl, (zbo_0 (fun q => h1 q.1)).symm⟩ | exact ⟨_, rfl, rfl, (zbo_0 (fun q => h2 q.2.1)).symm⟩ | exact ⟨_, rfl, rfl, (zbo_0 (fun q => h3 q.2.2)).symm⟩
    · refine z_il iX11_isCut_20 rfl ?_
      refine z_co iX11_isCut_21 ?_
      refine z_co iX11_isCut_22 ?_
      refine z_cs3i (fr' := fr - 1) iX11_isCut_24 zmX11_in (c11_in _ _ _) (by omega) (Nat.le_of_ble_eq_true rfl) (fun x M1 hq => ?_)
      obtain ⟨rfl, rfl⟩ := hq
      refine z_ib_eq iX11_isCut_27 (fun h3 => ?_) (fun h3 => ?_)
      · refine z_co iX11_isCut_34 ?_
        refine z_zret iX11_isCut_35 rfl rfl ?_
        first | exact ⟨_, rfl, rfl, (zbo_1 ⟨h1, h2, h3⟩).symm⟩ | exact ⟨_, rfl, rfl, (zbo_0 (fun q => h1 q.1)).symm⟩ | exact ⟨_, rfl, rfl, (zbo_0 (fun q => h2 q.2.1)).symm⟩ | exact ⟨_, rfl, rfl, (zbo_0 (fun q => h3 q.2.2)).symm⟩
      · refine z_co iX11_isCut_30 ?_
        refine z_goto iX11_isCut_31 ?_
        refine z_zret iX11_isCut_35 rfl rfl ?_
        first | exact ⟨_, rfl, rfl, (zbo_1 ⟨h1, h2, h3⟩).symm⟩ | exact ⟨_, rfl, rfl, (zbo_0 (fun q => h1 q.1)).symm⟩ | exact ⟨_, rfl, rfl, (zbo_0 (fun q => h2 q.2.1)).symm⟩ | exact ⟨_, rfl, rfl, (zbo_0 (fun q => h3 q.2.2)).symm⟩
set_option maxRecDepth 20000 in
set_option maxHeartbeats 4000000 in
theorem t11_cut {fr : Nat} {M : zM} {I J : zSI} {A : zSA} {L : zSL} {K : Int64} (hf : 60 ≤ fr) (hR : RepM M I A L J K) (hV : Val I A L) (hE : tE I A) {m fa c s n : Int32} (hm : zBw m 0 (I 8 - 1)) : zV zX11_cutBy fr 0 0 92 (zL [some (zr (40, 0)), some (zi m), some (zi fa), some (zi c), some (zi s), some (zi (tI (tkr A L m fa (zN (I 1))))), some (zi n)]) [] M (fun r M' => ∃ x, r = some (zi x) ∧ zEMx M x (sp_cutO I A L m c s (tkr A L m fa (zN (I 1)))) M') := by
  refine z_il iX11_cutBy_92 rfl ?_
  refine z_co iX11_cutBy_94 ?_
  refine z_icmp_ne iX11_cutBy_95 (fun h1 => ?_) (fun h1 => ?_)
  · obtain ⟨b, hb⟩ := tI_s h1
    have hb10 : b < 10 ∧ (b : Int) < (I 1).toInt := by have := (tkr_lt hb).1; have := hV.1.2.1; obtain ⟨z1, z2⟩ := this; have e0 : zN (I 1) = (I 1).toInt.toNat := rfl; omega
    have hbt := hb10.2
    have he0 := (zEt hV hbt).2.2
    have h11 := zE11 hV he0
    have eb : (nI b).toInt = (b : Int) := nI_toInt (by omega)
    rw [hb, show tI (some b) = nI b from rfl]
    refine z_al iX11_cutBy_101 rfl ?_
    refine z_gf iX11_cutBy_102 hR.1 rfl ?_
    refine z_il iX11_cutBy_105 rfl ?_
    refine z_iald iX11_cutBy_107 (hR.2.1 13 (by decide)) eb hb10.1 ?_
    refine z_is iX11_cutBy_108 ?_
    refine z_al iX11_cutBy_110 rfl ?_
    refine z_gf iX11_cutBy_111 hR.1 rfl ?_
    refine z_il iX11_cutBy_114 rfl ?_
    refine z_dup2 iX11_cutBy_116 ?_
    refine z_iald iX11_cutBy_117 (hR.2.1 6 (by decide)) (zEt hV hbt).1 (zEt hV hbt).2.1 ?_
    refine z_il iX11_cutBy_118 rfl ?_
    refine z_iadd iX11_cutBy_119 ?_
    refine z_iast iX11_cutBy_120 (hR.2.1 6 (by decide)) (show 2 ≤ 41 by decide) (zEt hV hbt).1 (zEt hV hbt).2.1 ?_
    refine z_al iX11_cutBy_121 rfl ?_
    refine z_gf iX11_cutBy_122 ((zupd_k (Nat.ne_of_beq_eq_false rfl)).trans hR.1) rfl ?_
    refine z_il iX11_cutBy_125 rfl ?_
    refine z_dup2 iX11_cutBy_127 ?_
    refine z_lald iX11_cutBy_128 ((zupd_k (Nat.ne_of_beq_eq_false rfl)).trans hR.2.2) (zEt hV hbt).1 (zEt hV hbt).2.1 ?_
    refine z_il iX11_cutBy_129 rfl ?_
    refine z_i2l iX11_cutBy_130 ?_
    refine z_al iX11_cutBy_131 rfl ?_
    refine z_il iX11_cutBy_132 rfl ?_
    refine z_al iX11_cutBy_134 rfl ?_
    refine z_gf iX11_cutBy_135 ((zupd_k (Nat.ne_of_beq_eq_false rfl)).trans hR.1) rfl ?_
    refine z_il iX11_cutBy_138 rfl ?_
    refine z_iald iX11_cutBy_139 ((zupd_i (Nat.ne_of_beq_eq_false rfl)).trans (hR.2.1 22 (by decide))) (zM3 hV hm).1 (zM3 hV hm).2.1 ?_
    refine z_il iX11_cutBy_140 rfl ?_
    refine z_cv3i (fr' := fr - 1) iX11_cutBy_142 zmX11_wearOf ((zupd_k (Nat.ne_of_beq_eq_false rfl)).trans hR.1) (c11_wearOf (hR.arr 6 _) _ _ _ (zEt hV hbt).1 (zEt hV hbt).2.1) (by omega) (Nat.le_of_ble_eq_true rfl) (fun x M1 hq => ?_)
    obtain ⟨rfl, hw⟩ := hq
    rw [zup_n (by decide)] at hw
    subst hw
    refine z_i2l iX11_cutBy_145 ?_
    refine z_lmul iX11_cutBy_146 ?_
    refine z_ladd iX11_cutBy_147 ?_
    refine z_last iX11_cutBy_148 ((zupd_k (Nat.ne_of_beq_eq_false rfl)).trans hR.2.2) (show 2 ≤ 42 by decide) (zEt hV hbt).1 (zEt hV hbt).2.1 ?_
    refine z_al iX11_cutBy_149 rfl ?_
    refine z_gf iX11_cutBy_150 ((zupd_k (Nat.ne_of_beq_eq_false rfl)).trans ((zupd_k (Nat.ne_of_beq_eq_false rfl)).trans hR.1)) rfl ?_
    refine z_il iX11_cutBy_153 rfl ?_
    refine z_al iX11_cutBy_155 rfl ?_
    refine z_gf iX11_cutBy_156 ((zupd_k (Nat.ne_of_beq_eq_false rfl)).trans ((zupd_k (Nat.ne_of_beq_eq_false rfl)).trans hR.1)) rfl ?_
    refine z_il iX11_cutBy_159 rfl ?_
    refine z_iald iX11_cutBy_160 ((zupd_k (Nat.ne_of_beq_eq_false rfl)).trans ((zupd_i (Nat.ne_of_beq_eq_false rfl)).trans (hR.2.1 22 (by decide)))) (zM3 hV hm).1 (zM3 hV hm).2.1 ?_
    refine z_iast iX11_cutBy_161 ((zupd_k (Nat.ne_of_beq_eq_false rfl)).trans ((zupd_i (Nat.ne_of_beq_eq_false rfl)).trans (hR.2.1 7 (by decide)))) (show 2 ≤ 41 by decide) (zEt hV hbt).1 (zEt hV hbt).2.1 ?_
    refine z_al iX11_cutBy_162 rfl ?_
    refine z_gf iX11_cutBy_163 ((zupd_k (Nat.ne_of_beq_eq_false rfl)).trans ((zupd_k (Nat.ne_of_beq_eq_false rfl)).trans ((zupd_k (Nat.ne_of_beq_eq_false rfl)).trans hR.1))) rfl ?_
    refine z_il iX11_cutBy_166 rfl ?_
    refine z_il iX11_cutBy_168 rfl ?_
    refine z_iast iX11_cutBy_170 ((zupd_i (Nat.ne_of_beq_eq_false rfl)).trans ((zupd_k (Nat.ne_of_beq_eq_false rfl)).trans ((zupd_i (Nat.ne_of_beq_eq_false rfl)).trans (hR.2.1 8 (by decide))))) (show 2 ≤ 41 by decide) (zEt hV hbt).1 (zEt hV hbt).2.1 ?_
    refine z_al iX11_cutBy_171 rfl ?_
    refine z_il iX11_cutBy_172 rfl ?_
    refine z_il iX11_cutBy_174 rfl ?_
    refine z_cv2v (fr' := fr - 1) iX11_cutBy_175 zmX11_goesOn ((zupd_k (Nat.ne_of_beq_eq_false rfl)).trans ((zupd_k (Nat.ne_of_beq_eq_false rfl)).trans ((zupd_k (Nat.ne_of_beq_eq_false rfl)).trans ((zupd_k (Nat.ne_of_beq_eq_false rfl)).trans hR.1)))) (c11_goesOn (n := zN (A 11 (zN (A 13 b)))) (e := (zN (A 13 b))) ((((hR.arr 6 (zup (A 6) (zN (A 13 b)) (A 6 (zN (A 13 b)) + c))).wear (L' := sL_c A L m c s (zN (A 13 b)))).arr 7 (zup (A 7) (zN (A 13 b)) (A 22 (zN m)))).arr 8 (zup (A 8) (zN (A 13 b)) s)) (zEt hV hbt).1 (zEt hV hbt).2.1 h11.2 h11.1) (by omega) (Nat.le_of_ble_eq_true rfl) (fun M1 hq => ?_)
    obtain ⟨hR2, hfr2⟩ := hq
    have hfr0 : ∀ a : zAd, a.1 < 40 → M1 a = _ := fun a ha => (hfr2 a ha).trans ((zupd_k (by omega)).trans ((zupd_k (by omega)).trans ((zupd_k (by omega)).trans (zupd_k (by omega)))))
    have hR1 : RepM M1 I (sA_c A m c s (zN (A 13 b))) (sL_c A L m c s (zN (A 13 b))) J K := hR2.cast rfl rfl
    have hR := hR1
    have hsz : ∀ t : Nat, t < 6 → zRg (sA_c A m c s (zN (A 13 b)) 20 t) 0 160 := by rw [sA_c_row (k := 20) (by decide)]; exact (zRu hV).2
    have h13 : 0 ≤ (sA_c A m c s (zN (A 13 b)) 13 b).toInt ∧ (sA_c A m c s (zN (A 13 b)) 13 b).toInt < 24 := by rw [sA_c_row (k := 13) (by decide)]; have := zEt hV hbt; omega
    have hE := hE.congr (A' := sA_c A m c s (zN (A 13 b))) (sA_c_row (by decide)) (sA_c_row (by decide)) (sA_c_row (by decide))
    refine z_al iX11_cutBy_178 rfl ?_
    refine z_il iX11_cutBy_179 rfl ?_
    refine z_co iX11_cutBy_181 ?_
    refine z_cv2i (fr' := fr - 1) iX11_cutBy_182 zmX11_saysOf hR.1 (c11_saysOf (k := 1) (by omega) hR (zRu hV).1 hsz hE hb10.1 h13 eb rfl (by decide)) (by omega) (Nat.le_of_ble_eq_true rfl) (fun x M1 hq => ?_)
    obtain ⟨hv1, J2, K2, hM2⟩ := hq
    have hR2 : RepM M1 I (sA_c A m c s (zN (A 13 b))) (sL_c A L m c s (zN (A 13 b))) J2 K2 := by rw [hM2]; exact hR.obj rfl
    have hfr0 : ∀ a : zAd, a.1 < 40 → M1 a = _ := fun a ha => (show M1 a = _ by rw [hM2, zupd_k (show a.1 ≠ 40 by omega)]).trans (hfr0 a ha)
    have hR := hR2
    refine z_if_eq iX11_cutBy_185 (fun h2 => ?_) (fun h2 => ?_)
    · refine z_al iX11_cutBy_199 rfl ?_
      refine z_gf iX11_cutBy_200 hR.1 rfl ?_
      refine z_il iX11_cutBy_203 rfl ?_
      refine z_lald iX11_cutBy_205 hR.2.2 (zEt hV hbt).1 (zEt hV hbt).2.1 ?_
      refine z_cl iX11_cutBy_206 ?_
      refine z_al iX11_cutBy_209 rfl ?_
      refine z_gf iX11_cutBy_210 hR.1 rfl ?_
      refine z_il iX11_cutBy_213 rfl ?_
      refine z_iald iX11_cutBy_215 (hR.2.1 4 (by decide)) (zEt hV hbt).1 (zEt hV hbt).2.1 ?_
      refine z_i2l iX11_cutBy_216 ?_
      refine z_lmul iX11_cutBy_217 ?_
      refine z_lcmp iX11_cutBy_218 ?_
      refine z_if_ge iX11_cutBy_219 (fun h3 => ?_) (fun h3 => ?_)
      · refine z_al iX11_cutBy_232 rfl ?_
        refine z_gf iX11_cutBy_233 hR.1 rfl ?_
        refine z_il iX11_cutBy_236 rfl ?_
        refine z_co iX11_cutBy_238 ?_
        refine z_iast iX11_cutBy_239 (hR.2.1 5 (by decide)) (show 2 ≤ 41 by decide) (zEt hV hbt).1 (zEt hV hbt).2.1 ?_
        refine z_il iX11_cutBy_240 rfl ?_
        refine z_iret iX11_cutBy_242 rfl ?_
        refine ⟨_, rfl, ?_⟩
        show zEMx _ (nI b) (sp_cutB I (sA_c A m c s (zN (A 13 b))) (sL_c A L m c s (zN (A 13 b))) (zN (A 13 b)) b) _
        unfold sp_cutB
        rw [hv1] at h2
        first
        | (rw [if_pos h2]; exact ⟨rfl, fun a ha => (zupd_k (show a.1 ≠ 41 by omega)).trans (hfr0 a ha), _, _, hR.arr 5 (zup (sA_c A m c s (zN (A 13 b)) 5) (zN (A 13 b)) 2)⟩)
        | (rw [if_neg (fun q => q h2), if_pos (Or.inl h3)]; exact ⟨rfl, fun a ha => (zupd_k (show a.1 ≠ 41 by omega)).trans (hfr0 a ha), _, _, hR.arr 5 (zup (sA_c A m c s (zN (A 13 b)) 5) (zN (A 13 b)) 1)⟩)
        | (rw [hv2] at h4; rw [if_neg (fun q => q h2), if_pos (Or.inr h4)]; exact ⟨rfl, fun a ha => (zupd_k (show a.1 ≠ 41 by omega)).trans (hfr0 a ha), _, _, hR.arr 5 (zup (sA_c A m c s (zN (A 13 b)) 5) (zN (A 13 b)) 1)⟩)
        | (rw [hv2] at h4; rw [if_neg (fun q => q h2), if_neg (fun q => q.elim h3 (fun z => z h4))]; exact ⟨rfl, hfr0, _, _, hR⟩)
      · refine z_al iX11_cutBy_222 rfl ?_
        refine z_il iX11_cutBy_223 rfl ?_
        refine z_co iX11_cutBy_225 ?_
        refine z_cv2i (fr' := fr - 1) iX11_cutBy_226 zmX11_saysOf hR.1 (c11_saysOf (k := 0) (by omega) hR (zRu hV).1 hsz hE hb10.1 h13 eb rfl (by decide)) (by omega) (Nat.le_of_ble_eq_true rfl) (fun x M1 hq => ?_)
        obtain ⟨hv2, J2, K2, hM2⟩ := hq
        have hR2 : RepM M1 I (sA_c A m c s (zN (A 13 b))) (sL_c A L m c s (zN (A 13 b))) J2 K2 := by rw [hM2]; exact hR.obj rfl
        have hfr0 : ∀ a : zAd, a.1 < 40 → M1 a = _ := fun a ha => (show M1 a = _ by rw [hM2, zupd_k (show a.1 ≠ 40 by omega)]).trans (hfr0 a ha)
        have hR := hR2
        refine z_if_eq iX11_cutBy_229 (fun h4 => ?_) (fun h4 => ?_)
        · refine z_il iX11_cutBy_240 rfl ?_
          refine z_iret iX11_cutBy_242 rfl ?_
          refine ⟨_, rfl, ?_⟩
          show zEMx _ (nI b) (sp_cutB I (sA_c A m c s (zN (A 13 b))) (sL_c A L m c s (zN (A 13 b))) (zN (A 13 b)) b) _
          unfold sp_cutB
          rw [hv1] at h2
          first
          | (rw [if_pos h2]; exact ⟨rfl, fun a ha => (zupd_k (show a.1 ≠ 41 by omega)).trans (hfr0 a ha), _, _, hR.arr 5 (zup (sA_c A m c s (zN (A 13 b)) 5) (zN (A 13 b)) 2)⟩)
          | (rw [if_neg (fun q => q h2), if_pos (Or.inl h3)]; exact ⟨rfl, fun a ha => (zupd_k (show a.1 ≠ 41 by omega)).trans (hfr0 a ha), _, _, hR.arr 5 (zup (sA_c A m c s (zN (A 13 b)) 5) (zN (A 13 b)) 1)⟩)
          | (rw [hv2] at h4; rw [if_neg (fun q => q h2), if_pos (Or.inr h4)]; exact ⟨rfl, fun a ha => (zupd_k (show a.1 ≠ 41 by omega)).trans (hfr0 a ha), _, _, hR.arr 5 (zup (sA_c A m c s (zN (A 13 b)) 5) (zN (A 13 b)) 1)⟩)
          | (rw [hv2] at h4; rw [if_neg (fun q => q h2), if_neg (fun q => q.elim h3 (fun z => z h4))]; exact ⟨rfl, hfr0, _, _, hR⟩)
        · refine z_al iX11_cutBy_232 rfl ?_
          refine z_gf iX11_cutBy_233 hR.1 rfl ?_
          refine z_il iX11_cutBy_236 rfl ?_
          refine z_co iX11_cutBy_238 ?_
          refine z_iast iX11_cutBy_239 (hR.2.1 5 (by decide)) (show 2 ≤ 41 by decide) (zEt hV hbt).1 (zEt hV hbt).2.1 ?_
          refine z_il iX11_cutBy_240 rfl ?_
          refine z_iret iX11_cutBy_242 rfl ?_
          refine ⟨_, rfl, ?_⟩
          show zEMx _ (nI b) (sp_cutB I (sA_c A m c s (zN (A 13 b))) (sL_c A L m c s (zN (A 13 b))) (zN (A 13 b)) b) _
          unfold sp_cutB
          rw [hv1] at h2
          first
          | (rw [if_pos h2]; exact ⟨rfl, fun a ha => (zupd_k (show a.1 ≠ 41 by omega)).trans (hfr0 a ha), _, _, hR.arr 5 (zup (sA_c A m c s (zN (A 13 b)) 5) (zN (A 13 b)) 2)⟩)
          | (rw [if_neg (fun q => q h2), if_pos (Or.inl h3)]; exact ⟨rfl, fun a ha => (zupd_k (show a.1 ≠ 41 by omega)).trans (hfr0 a ha), _, _, hR.arr 5 (zup (sA_c A m c s (zN (A 13 b)) 5) (zN (A 13 b)) 1)⟩)
          | (rw [hv2] at h4; rw [if_neg (fun q => q h2), if_pos (Or.inr h4)]; exact ⟨rfl, fun a ha => (zupd_k (show a.1 ≠ 41 by omega)).trans (hfr0 a ha), _, _, hR.arr 5 (zup (sA_c A m c s (zN (A 13 b)) 5) (zN (A 13 b)) 1)⟩)
          | (rw [hv2] at h4; rw [if_neg (fun q => q h2), if_neg (fun q => q.elim h3 (fun z => z h4))]; exact ⟨rfl, hfr0, _, _, hR⟩)
    · refine z_al iX11_cutBy_188 rfl ?_
      refine z_gf iX11_cutBy_189 hR.1 rfl ?_
      refine z_il iX11_cutBy_192 rfl ?_
      refine z_co iX11_cutBy_194 ?_
      refine z_iast iX11_cutBy_195 (hR.2.1 5 (by decide)) (show 2 ≤ 41 by decide) (zEt hV hbt).1 (zEt hV hbt).2.1 ?_
      refine z_goto iX11_cutBy_196 ?_
      refine z_il iX11_cutBy_240 rfl ?_
      refine z_iret iX11_cutBy_242 rfl ?_
      refine ⟨_, rfl, ?_⟩
      show zEMx _ (nI b) (sp_cutB I (sA_c A m c s (zN (A 13 b))) (sL_c A L m c s (zN (A 13 b))) (zN (A 13 b)) b) _
      unfold sp_cutB
      rw [hv1] at h2
      first
      | (rw [if_pos h2]; exact ⟨rfl, fun a ha => (zupd_k (show a.1 ≠ 41 by omega)).trans (hfr0 a ha), _, _, hR.arr 5 (zup (sA_c A m c s (zN (A 13 b)) 5) (zN (A 13 b)) 2)⟩)
      | (rw [if_neg (fun q => q h2), if_pos (Or.inl h3)]; exact ⟨rfl, fun a ha => (zupd_k (show a.1 ≠ 41 by omega)).trans (hfr0 a ha), _, _, hR.arr 5 (zup (sA_c A m c s (zN (A 13 b)) 5) (zN (A 13 b)) 1)⟩)
      | (rw [hv2] at h4; rw [if_neg (fun q => q h2), if_pos (Or.inr h4)]; exact ⟨rfl, fun a ha => (zupd_k (show a.1 ≠ 41 by omega)).trans (hfr0 a ha), _, _, hR.arr 5 (zup (sA_c A m c s (zN (A 13 b)) 5) (zN (A 13 b)) 1)⟩)
      | (rw [hv2] at h4; rw [if_neg (fun q => q h2), if_neg (fun q => q.elim h3 (fun z => z h4))]; exact ⟨rfl, hfr0, _, _, hR⟩)
  · refine z_co iX11_cutBy_98 ?_
    refine z_iret iX11_cutBy_100 rfl ?_
    have hn : tkr A L m fa (zN (I 1)) = none := tI_n (N := 10) (fun b q => by have := (tkr_lt q).1; have := hV.1.2.1.2; have e0 : zN (I 1) = (I 1).toInt.toNat := rfl; omega) (by decide) h1
    refine ⟨_, rfl, ?_⟩
    rw [hn]
    exact ⟨rfl, fun _ _ => rfl, _, _, hR⟩
set_option maxRecDepth 20000 in
set_option maxHeartbeats 4000000 in
theorem c11_cutBy {fr : Nat} {M : zM} {I J : zSI} {A : zSA} {L : zSL} {K : Int64} (hf : 60 ≤ fr) (hR : RepM M I A L J K) (hV : Val I A L) (hE : tE I A) {m : Int32} (hm : zBw m 0 (I 8 - 1)) (fa c s : Int32) : zCi zX11_cutBy fr 0 0 [zr (40, 0), zi m, zi fa, zi c, zi s] M (fun x M' => zEMx M x (sp_cutO I A L m c s (tkr A L m fa (zN (I 1)))) M') := by
  refine z_enter (L := [some (zr (40, 0)), some (zi m), some (zi fa), some (zi c), some (zi s)]) rfl (by decide +kernel) (Nat.le_of_ble_eq_true rfl) ?_
  refine z_co iX11_cutBy_0 ?_
  refine z_is iX11_cutBy_1 ?_
  refine z_co iX11_cutBy_3 ?_
  refine z_is iX11_cutBy_4 ?_
  refine z_loc [some (zr (40, 0)), some (zi m), some (zi fa), some (zi c), some (zi s), some (zi (tI (tkr A L m fa 0))), some (zi (nI 0))] ⟨rfl, rfl, rfl, rfl, rfl, rfl, rfl, trivial⟩ ?_
  exact l11_taker (by omega) hR hV (t11_cut (by omega) hR hV hE hm) (zN (I 1)) 0 (by have := hV.1.2.1.1; have e0 : zN (I 1) = (I 1).toInt.toNat := rfl; omega)
set_option maxRecDepth 20000 in
set_option maxHeartbeats 4000000 in
theorem pm_cut {fr : Nat} {M : zM} {I J : zSI} {A : zSA} {L : zSL} {K : Int64} (hf : 70 ≤ fr) (hR : RepM M I A L J K) (hV : Val I A L) (hE : tE I A) (m fa c s : Int32) : zCi zX11_cut fr 0 0 [zr (40, 0), zi m, zi fa, zi c, zi s] M (fun x M' => zEM M x (sp_cut I A L m fa c s) M') := by
  refine z_enter (L := [some (zr (40, 0)), some (zi m), some (zi fa), some (zi c), some (zi s)]) rfl (by decide +kernel) (Nat.le_of_ble_eq_true rfl) ?_
  refine z_al iX11_cut_0 rfl ?_
  refine z_il iX11_cut_1 rfl ?_
  refine z_cv1i (fr' := fr - 1) iX11_cut_2 zmX11_isMachine hR.1 (c11_isMachine (by omega) hR _) (by omega) (Nat.le_of_ble_eq_true rfl) (fun x M1 hq => ?_)
  obtain ⟨rfl, rfl⟩ := hq
  refine z_ib_eq iX11_cut_5 (fun h1 => ?_) (fun h1 => ?_)
  · refine z_co iX11_cut_30 ?_
    refine z_iret iX11_cut_32 rfl ?_
    refine ⟨_, rfl, ?_⟩
    unfold sp_cut
    first
    | (rw [if_pos (Or.inl h1)]; exact zEM.rd hR)
    | (have hc : ¬ zBw m 0 (I 8 - 1) ∨ ¬ zBw fa 0 9 ∨ ¬ zBw c 1 99 ∨ ¬ zBw s 1 20 := by
        by_cases z1 : zBw fa 0 9
        · by_cases z2 : zBw c 1 99
          · exact Or.inr (Or.inr (Or.inr (fun z3 => h2 ⟨z1, z2, z3⟩)))
          · exact Or.inr (Or.inr (Or.inl z2))
        · exact Or.inr (Or.inl z1)
       rw [if_pos hc]
       exact zEM.rd hR)
    | (rw [if_neg (fun q => q.elim (fun z => z h1) (fun z => z.elim (fun z => z h2.1) (fun z => z.elim (fun z => z h2.2.1) (fun z => z h2.2.2))))]; exact hM.em)
  · refine z_il iX11_cut_8 rfl ?_
    refine z_il iX11_cut_9 rfl ?_
    refine z_il iX11_cut_10 rfl ?_
    refine z_cs3i (fr' := fr - 1) iX11_cut_12 zmX11_isCut (c11_isCut (by omega) _ _ _) (by omega) (Nat.le_of_ble_eq_true rfl) (fun x M1 hq => ?_)
    obtain ⟨rfl, rfl⟩ := hq
    refine z_ib_eq iX11_cut_15 (fun h2 => ?_) (fun h2 => ?_)
    · refine z_co iX11_cut_30 ?_
      refine z_iret iX11_cut_32 rfl ?_
      refine ⟨_, rfl, ?_⟩
      unfold sp_cut
      first
      | (rw [if_pos (Or.inl h1)]; exact zEM.rd hR)
      | (have hc : ¬ zBw m 0 (I 8 - 1) ∨ ¬ zBw fa 0 9 ∨ ¬ zBw c 1 99 ∨ ¬ zBw s 1 20 := by
          by_cases z1 : zBw fa 0 9
          · by_cases z2 : zBw c 1 99
            · exact Or.inr (Or.inr (Or.inr (fun z3 => h2 ⟨z1, z2, z3⟩)))
            · exact Or.inr (Or.inr (Or.inl z2))
          · exact Or.inr (Or.inl z1)
         rw [if_pos hc]
         exact zEM.rd hR)
      | (rw [if_neg (fun q => q.elim (fun z => z h1) (fun z => z.elim (fun z => z h2.1) (fun z => z.elim (fun z => z h2.2.1) (fun z => z h2.2.2))))]; exact hM.em)
    · refine z_al iX11_cut_18 rfl ?_
      refine z_il iX11_cut_19 rfl ?_
      refine z_il iX11_cut_20 rfl ?_
      refine z_il iX11_cut_21 rfl ?_
      refine z_il iX11_cut_22 rfl ?_
      refine z_cv4i (fr' := fr - 1) iX11_cut_24 zmX11_cutBy hR.1 (c11_cutBy (by omega) hR hV hE h1 _ _ _) (by omega) (Nat.le_of_ble_eq_true rfl) (fun x M1 hq => ?_)
      have hM := hq
      refine z_goto iX11_cut_27 ?_
      refine z_iret iX11_cut_32 rfl ?_
      refine ⟨_, rfl, ?_⟩
      unfold sp_cut
      first
      | (rw [if_pos (Or.inl h1)]; exact zEM.rd hR)
      | (have hc : ¬ zBw m 0 (I 8 - 1) ∨ ¬ zBw fa 0 9 ∨ ¬ zBw c 1 99 ∨ ¬ zBw s 1 20 := by
          by_cases z1 : zBw fa 0 9
          · by_cases z2 : zBw c 1 99
            · exact Or.inr (Or.inr (Or.inr (fun z3 => h2 ⟨z1, z2, z3⟩)))
            · exact Or.inr (Or.inr (Or.inl z2))
          · exact Or.inr (Or.inl z1)
         rw [if_pos hc]
         exact zEM.rd hR)
      | (rw [if_neg (fun q => q.elim (fun z => z h1) (fun z => z.elim (fun z => z h2.1) (fun z => z.elim (fun z => z h2.2.1) (fun z => z h2.2.2))))]; exact hM.em)
