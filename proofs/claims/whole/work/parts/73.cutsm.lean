theorem sp_cut_y {I : zSI} {A : zSA} {L : zSL} {m fa c s : Int32} (hm : zBw m 0 (I 8 - 1)) (h : zBw fa 0 9 ∧ zBw c 1 99 ∧ zBw s 1 20) : sp_cut I A L m fa c s = sp_cutO I A L m c s (tkr A L m fa (zN (I 1))) := if_neg (fun q => q.elim (fun z => z hm) (fun z => z.elim (fun z => z h.1) (fun z => z.elim (fun z => z h.2.1) (fun z => z h.2.2))))
theorem sp_cut_n {I : zSI} {A : zSA} {L : zSL} {m fa c s : Int32} (h2 : ¬ (zBw fa 0 9 ∧ zBw c 1 99 ∧ zBw s 1 20)) : sp_cut I A L m fa c s = (-2, I, A, L) := if_pos (Or.inr (by
  by_cases z1 : zBw fa 0 9
  · by_cases z2 : zBw c 1 99
    · exact Or.inr (Or.inr (fun z3 => h2 ⟨z1, z2, z3⟩))
    · exact Or.inr (Or.inl z2)
  · exact Or.inl z1))
theorem Val.cuL {I : zSI} {m : Int32} {S : Nat} : ∀ (n : Nat) {A : zSA} {L : zSL} {p d : Int32}, Val I A L → Val (cuL m S I n p d A L).2.1 (cuL m S I n p d A L).2.2.1 (cuL m S I n p d A L).2.2.2
  | 0, _, _, _, _, hV => hV
  | n + 1, A, L, p, d, hV => by
    by_cases h : 0 ≤ p.toInt ∧ p.toInt + 2 < (A 28 S).toInt
    · rw [cuL_s h]
      exact Val.cuL n (zCu_V hV)
    · rw [cuL_n h]
      exact hV
theorem Val.cuts {I : zSI} {A : zSA} {L : zSL} (hV : Val I A L) (m s sort fm n : Int32) : Val (sp_cuts I A L m s sort fm n).2.1 (sp_cuts I A L m s sort fm n).2.2.1 (sp_cuts I A L m s sort fm n).2.2.2 := by
  unfold sp_cuts
  by_cases c1 : ¬ zBw m 0 (I 8 - 1) ∨ ¬ zBw s 0 3 ∨ ¬ zBw sort 0 2 ∨ ¬ zBw n 0 13
  · rw [if_pos c1]; exact hV
  · rw [if_neg c1]
    by_cases c2 : A 26 (zN s) = 0
    · rw [if_pos c2]; exact hV
    · rw [if_neg c2]
      by_cases c3 : ¬ A 27 (zN s) = sort
      · rw [if_pos c3]; exact hV
      · rw [if_neg c3]; exact Val.cuL _ hV
set_option maxRecDepth 20000 in
set_option maxHeartbeats 4000000 in
theorem l11_cuts {fr : Nat} {M0 : zM} {I : zSI} {m s sort fm nn : Int32} (hf : 90 ≤ fr) (hm : zBw m 0 (I 8 - 1)) (hs : zBw s 0 3) (hn0 : 0 ≤ nn.toInt) (hn13 : zN nn ≤ 13) (hfm : 0 < zN nn → 0 ≤ fm.toInt)  : ∀ (n i : Nat) (M : zM) (A : zSA) (L : zSL) (J : zSI) (K : Int64) (p d : Int32), i + n = zN nn → RepM M I A L J K → Val I A L → tE I A → zRg (A 28 (zN s)) 0 40 → p.toInt = fm.toInt + 3 * (i : Int) → (∀ a : zAd, a.1 < 40 → M a = M0 a) → zV zX11_cuts fr 0 0 91 (zL [some (zr (40, 0)), some (zi m), some (zi s), some (zi sort), some (zi fm), some (zi nn), some (zi d), some (zi (nI i))]) [] M (fun r M' => ∃ x, r = some (zi x) ∧ zEMx M0 x (cuL m (zN s) I n p d A L) M') := by
  intro n
  induction n with
  | zero =>
    intro i M A L J K p d hn hR hV hE hsz hp hfr
    have e13 : nn.toInt = (zN nn : Int) := zPn hn0
    refine z_il iX11_cuts_91 rfl ?_
    refine z_il iX11_cuts_93 rfl ?_
    refine z_icmp_ge iX11_cuts_95 (fun h1 => ?_) (fun h1 => ?_)
    · refine z_il iX11_cuts_206 rfl ?_
      refine z_iret iX11_cuts_208 rfl ?_
      exact ⟨_, rfl, rfl, hfr, _, _, hR⟩
    · exfalso
      have e1 := nI_toInt (n := i) (by omega)
      simp only [zi_le, e13, e1] at h1
      omega
  | succ n ih =>
    intro i M A L J K p d hn hR hV hE hsz hp hfr
    have e13 : nn.toInt = (zN nn : Int) := zPn hn0
    refine z_il iX11_cuts_91 rfl ?_
    refine z_il iX11_cuts_93 rfl ?_
    refine z_icmp_ge iX11_cuts_95 (fun h1 => ?_) (fun h1 => ?_)
    · exfalso
      have e1 := nI_toInt (n := i) (by omega)
      simp only [zi_le, e13, e1] at h1
      omega
    · have ei := nI_toInt (n := i) (by omega)
      have e3 : (3 * nI i).toInt = 3 * (i : Int) := by rw [zmul (by simp only [Int32.reduceToInt]; omega) (by simp only [Int32.reduceToInt]; omega), ei]; rfl
      have hfm0 : 0 ≤ fm.toInt := hfm (by omega)
      obtain ⟨z1, z2⟩ := hsz
      have e4 : (A 28 (zN s) - 3 * nI i).toInt = (A 28 (zN s)).toInt - 3 * (i : Int) := by rw [zsub (by omega) (by omega), e3]
      have e5 : (A 28 (zN s) - 3 * nI i - 3).toInt = (A 28 (zN s)).toInt - 3 * (i : Int) - 3 := by rw [zsub (by simp only [Int32.reduceToInt]; omega) (by simp only [Int32.reduceToInt]; omega), e4]; rfl
      refine z_il iX11_cuts_98 rfl ?_
      refine z_al iX11_cuts_100 rfl ?_
      refine z_gf iX11_cuts_101 hR.1 rfl ?_
      refine z_il iX11_cuts_104 rfl ?_
      refine z_iald iX11_cuts_105 (hR.2.1 28 (by decide)) (zBn hs).1 (zN3 hs) ?_
      refine z_co iX11_cuts_106 ?_
      refine z_il iX11_cuts_107 rfl ?_
      refine z_imul iX11_cuts_109 ?_
      refine z_isub iX11_cuts_110 ?_
      refine z_co iX11_cuts_111 ?_
      refine z_isub iX11_cuts_112 ?_
      refine z_icmp_le iX11_cuts_113 (fun h2 => ?_) (fun h2 => ?_)
      · have hle := zi_le.mp h2
        rw [e5] at hle
        have hk : 0 ≤ p.toInt ∧ p.toInt + 2 < (A 28 (zN s)).toInt := by omega
        have p3 := zp_1 (p := p) (x := 3) (k := 3) (by decide) (by decide) (by omega)
        have es := (zBn hs).1
        have hs4 := zN3 hs
        have ep := zPn hk.1
        have e6 : (40 * s).toInt = 40 * s.toInt := zmul (by simp only [Int32.reduceToInt]; omega) (by simp only [Int32.reduceToInt]; omega)
        have e7 : (40 * s + fm).toInt = 40 * s.toInt + fm.toInt := by rw [zadd (by omega) (by omega), e6]
        have e8 : (40 * s + fm + 3 * nI i).toInt = 40 * s.toInt + fm.toInt + 3 * (i : Int) := by rw [zadd (by omega) (by omega), e7, e3]
        have hc0 : (40 * s + fm + 3 * nI i).toInt = ((40 * zN s + zN p : Nat) : Int) := by omega
        have hc1 : (40 * s + fm + 3 * nI i + 1).toInt = ((40 * zN s + (zN p + 1) : Nat) : Int) := by rw [zadd (by simp only [Int32.reduceToInt]; omega) (by simp only [Int32.reduceToInt]; omega)]; simp only [Int32.reduceToInt]; omega
        have hc2 : (40 * s + fm + 3 * nI i + 2).toInt = ((40 * zN s + (zN p + 2) : Nat) : Int) := by rw [zadd (by simp only [Int32.reduceToInt]; omega) (by simp only [Int32.reduceToInt]; omega)]; simp only [Int32.reduceToInt]; omega
        have b0 : 40 * zN s + zN p < 160 := by omega
        have b1 : 40 * zN s + (zN p + 1) < 160 := by omega
        have b2 : 40 * zN s + (zN p + 2) < 160 := by omega
        refine z_co iX11_cuts_119 ?_
        refine z_il iX11_cuts_121 rfl ?_
        refine z_imul iX11_cuts_122 ?_
        refine z_il iX11_cuts_123 rfl ?_
        refine z_iadd iX11_cuts_125 ?_
        refine z_co iX11_cuts_126 ?_
        refine z_il iX11_cuts_127 rfl ?_
        refine z_imul iX11_cuts_129 ?_
        refine z_iadd iX11_cuts_130 ?_
        refine z_is iX11_cuts_131 ?_
        refine z_al iX11_cuts_133 rfl ?_
        refine z_gf iX11_cuts_134 hR.1 rfl ?_
        refine z_il iX11_cuts_137 rfl ?_
        refine z_iald iX11_cuts_139 (hR.2.1 29 (by decide)) hc0 b0 ?_
        refine z_al iX11_cuts_140 rfl ?_
        refine z_gf iX11_cuts_141 hR.1 rfl ?_
        refine z_il iX11_cuts_144 rfl ?_
        refine z_co iX11_cuts_146 ?_
        refine z_iadd iX11_cuts_147 ?_
        refine z_iald iX11_cuts_148 (hR.2.1 29 (by decide)) hc1 b1 ?_
        refine z_al iX11_cuts_149 rfl ?_
        refine z_gf iX11_cuts_150 hR.1 rfl ?_
        refine z_il iX11_cuts_153 rfl ?_
        refine z_co iX11_cuts_155 ?_
        refine z_iadd iX11_cuts_156 ?_
        refine z_iald iX11_cuts_157 (hR.2.1 29 (by decide)) hc2 b2 ?_
        refine z_cs3i (fr' := fr - 1) iX11_cuts_158 zmX11_isCut (c11_isCut (by omega) _ _ _) (by omega) (Nat.le_of_ble_eq_true rfl) (fun x M1 hq => ?_)
        obtain ⟨rfl, rfl⟩ := hq
        refine z_ib_eq iX11_cuts_161 (fun h3 => ?_) (fun h3 => ?_)
        · refine z_in iX11_cuts_200 rfl ?_
          refine z_goto iX11_cuts_203 ?_
          have e : cuL m (zN s) I (n + 1) p d A L = cuL m (zN s) I n (p + 3) d A L := by
            rw [cuL_s hk, show zCu I A L m (zN s) p = (-2, I, A, L) from sp_cut_n h3]
            rw [if_pos (show ((-2, I, A, L) : zRes).1 < 0 from (by decide : (-2 : Int32) < 0))]
          rw [e]
          refine z_loc [some (zr (40, 0)), some (zi m), some (zi s), some (zi sort), some (zi fm), some (zi nn), some (zi d), some (zi (nI (i + 1)))] ⟨rfl, rfl, rfl, rfl, rfl, rfl, rfl, ?_, trivial⟩ (ih (i + 1) _ _ _ _ _ _ _ (by omega) hR hV hE ⟨z1, z2⟩ (by rw [p3.1, hp]; omega) hfr)
          show some (zi (nI i + 1)) = _
          rw [nI_1]
        · refine z_al iX11_cuts_164 rfl ?_
          refine z_il iX11_cuts_165 rfl ?_
          refine z_al iX11_cuts_166 rfl ?_
          refine z_gf iX11_cuts_167 hR.1 rfl ?_
          refine z_il iX11_cuts_170 rfl ?_
          refine z_iald iX11_cuts_172 (hR.2.1 29 (by decide)) hc0 b0 ?_
          refine z_al iX11_cuts_173 rfl ?_
          refine z_gf iX11_cuts_174 hR.1 rfl ?_
          refine z_il iX11_cuts_177 rfl ?_
          refine z_co iX11_cuts_179 ?_
          refine z_iadd iX11_cuts_180 ?_
          refine z_iald iX11_cuts_181 (hR.2.1 29 (by decide)) hc1 b1 ?_
          refine z_al iX11_cuts_182 rfl ?_
          refine z_gf iX11_cuts_183 hR.1 rfl ?_
          refine z_il iX11_cuts_186 rfl ?_
          refine z_co iX11_cuts_188 ?_
          refine z_iadd iX11_cuts_189 ?_
          refine z_iald iX11_cuts_190 (hR.2.1 29 (by decide)) hc2 b2 ?_
          refine z_cv4i (fr' := fr - 1) iX11_cuts_191 zmX11_cutBy hR.1 (c11_cutBy (by omega) hR hV hE hm _ _ _) (by omega) (Nat.le_of_ble_eq_true rfl) (fun x M1 hq => ?_)
          obtain ⟨hxe, hfr2, J2, K2, hR2⟩ := hq
          have eCu : zCu I A L m (zN s) p = sp_cutO I A L m (A 29 (40 * zN s + (zN p + 1))) (A 29 (40 * zN s + (zN p + 2))) (tkr A L m (A 29 (40 * zN s + zN p)) (zN (I 1))) := sp_cut_y hm h3
          rw [← eCu] at hxe hR2
          rw [(zCu_row (Nat.le_refl 12)).2] at hR2
          rw [hxe]
          have hV2 : Val I (zCu I A L m (zN s) p).2.2.1 (zCu I A L m (zN s) p).2.2.2 := zCu_V hV
          have hE2 := hE.congr (A' := (zCu I A L m (zN s) p).2.2.1) (zCu_row (by decide)).1 (zCu_row (by decide)).1 (zCu_row (by decide)).1
          have hsz2 : zRg ((zCu I A L m (zN s) p).2.2.1 28 (zN s)) 0 40 := by rw [(zCu_row (show 12 ≤ 28 by decide)).1]; exact ⟨z1, z2⟩
          have hfr3 : ∀ a : zAd, a.1 < 40 → M1 a = M0 a := fun a ha => (hfr2 a ha).trans (hfr a ha)
          refine z_if_lt iX11_cuts_194 (fun h4 => ?_) (fun h4 => ?_)
          · refine z_in iX11_cuts_200 rfl ?_
            refine z_goto iX11_cuts_203 ?_
            have e : cuL m (zN s) I (n + 1) p d A L = cuL m (zN s) I n (p + 3) d (zCu I A L m (zN s) p).2.2.1 (zCu I A L m (zN s) p).2.2.2 := by
              rw [cuL_s hk, if_pos h4]
            rw [e]
            refine z_loc [some (zr (40, 0)), some (zi m), some (zi s), some (zi sort), some (zi fm), some (zi nn), some (zi d), some (zi (nI (i + 1)))] ⟨rfl, rfl, rfl, rfl, rfl, rfl, rfl, ?_, trivial⟩ (ih (i + 1) _ _ _ _ _ _ _ (by omega) hR2 hV2 hE2 hsz2 (by rw [p3.1, hp]; omega) hfr3)
            show some (zi (nI i + 1)) = _
            rw [nI_1]
          · refine z_in iX11_cuts_197 rfl ?_
            refine z_in iX11_cuts_200 rfl ?_
            refine z_goto iX11_cuts_203 ?_
            have e : cuL m (zN s) I (n + 1) p d A L = cuL m (zN s) I n (p + 3) (d + 1) (zCu I A L m (zN s) p).2.2.1 (zCu I A L m (zN s) p).2.2.2 := by
              rw [cuL_s hk, if_neg h4]
            rw [e]
            refine z_loc [some (zr (40, 0)), some (zi m), some (zi s), some (zi sort), some (zi fm), some (zi nn), some (zi (d + 1)), some (zi (nI (i + 1)))] ⟨rfl, rfl, rfl, rfl, rfl, rfl, rfl, ?_, trivial⟩ (ih (i + 1) _ _ _ _ _ _ _ (by omega) hR2 hV2 hE2 hsz2 (by rw [p3.1, hp]; omega) hfr3)
            show some (zi (nI i + 1)) = _
            rw [nI_1]
      · refine z_co iX11_cuts_116 ?_
        refine z_iret iX11_cuts_118 rfl ?_
        refine ⟨_, rfl, ?_⟩
        rw [cuL_n (fun q => h2 (by rw [zi_le, e5]; omega))]
        exact ⟨rfl, hfr, _, _, hR⟩
set_option maxRecDepth 20000 in
set_option maxHeartbeats 4000000 in
theorem pm_cuts {fr : Nat} {M : zM} {I J : zSI} {A : zSA} {L : zSL} {K : Int64} (hf : 100 ≤ fr) (hR : RepM M I A L J K) (hV : Val I A L) (hE : tE I A) (m s sort fm n : Int32) : zCi zX11_cuts fr 0 0 [zr (40, 0), zi m, zi s, zi sort, zi fm, zi n] M (fun x M' => zEM M x (sp_cuts I A L m s sort fm n) M') := by
  refine z_enter (L := [some (zr (40, 0)), some (zi m), some (zi s), some (zi sort), some (zi fm), some (zi n)]) rfl (by decide +kernel) (Nat.le_of_ble_eq_true rfl) ?_
  refine z_al iX11_cuts_0 rfl ?_
  refine z_il iX11_cuts_1 rfl ?_
  refine z_cv1i (fr' := fr - 1) iX11_cuts_2 zmX11_isMachine hR.1 (c11_isMachine (by omega) hR _) (by omega) (Nat.le_of_ble_eq_true rfl) (fun x M1 hq => ?_)
  obtain ⟨rfl, rfl⟩ := hq
  refine z_ib_eq iX11_cuts_5 (fun h1 => ?_) (fun h1 => ?_)
  · refine z_co iX11_cuts_35 ?_
    refine z_iret iX11_cuts_37 rfl ?_
    refine ⟨_, rfl, ?_⟩
    unfold sp_cuts
    have hc : ¬ zBw m 0 (I 8 - 1) ∨ ¬ zBw s 0 3 ∨ ¬ zBw sort 0 2 ∨ ¬ zBw n 0 13 := by
      first | exact Or.inl h1 | exact Or.inr (Or.inl h2) | exact Or.inr (Or.inr (Or.inl h3)) | exact Or.inr (Or.inr (Or.inr h4))
    rw [if_pos hc]
    exact zEM.rd hR
  · refine z_il iX11_cuts_8 rfl ?_
    refine z_cs1i (fr' := fr - 1) iX11_cuts_9 zmX11_isSheet (c11_isSheet (by omega) _) (by omega) (Nat.le_of_ble_eq_true rfl) (fun x M1 hq => ?_)
    obtain ⟨rfl, rfl⟩ := hq
    refine z_ib_eq iX11_cuts_12 (fun h2 => ?_) (fun h2 => ?_)
    · refine z_co iX11_cuts_35 ?_
      refine z_iret iX11_cuts_37 rfl ?_
      refine ⟨_, rfl, ?_⟩
      unfold sp_cuts
      have hc : ¬ zBw m 0 (I 8 - 1) ∨ ¬ zBw s 0 3 ∨ ¬ zBw sort 0 2 ∨ ¬ zBw n 0 13 := by
        first | exact Or.inl h1 | exact Or.inr (Or.inl h2) | exact Or.inr (Or.inr (Or.inl h3)) | exact Or.inr (Or.inr (Or.inr h4))
      rw [if_pos hc]
      exact zEM.rd hR
    · refine z_il iX11_cuts_15 rfl ?_
      refine z_co iX11_cuts_16 ?_
      refine z_co iX11_cuts_17 ?_
      refine z_cs3i (fr' := fr - 1) iX11_cuts_18 zmX11_in (c11_in _ _ _) (by omega) (Nat.le_of_ble_eq_true rfl) (fun x M1 hq => ?_)
      obtain ⟨rfl, rfl⟩ := hq
      refine z_ib_eq iX11_cuts_21 (fun h3 => ?_) (fun h3 => ?_)
      · refine z_co iX11_cuts_35 ?_
        refine z_iret iX11_cuts_37 rfl ?_
        refine ⟨_, rfl, ?_⟩
        unfold sp_cuts
        have hc : ¬ zBw m 0 (I 8 - 1) ∨ ¬ zBw s 0 3 ∨ ¬ zBw sort 0 2 ∨ ¬ zBw n 0 13 := by
          first | exact Or.inl h1 | exact Or.inr (Or.inl h2) | exact Or.inr (Or.inr (Or.inl h3)) | exact Or.inr (Or.inr (Or.inr h4))
        rw [if_pos hc]
        exact zEM.rd hR
      · refine z_il iX11_cuts_24 rfl ?_
        refine z_co iX11_cuts_26 ?_
        refine z_co iX11_cuts_27 ?_
        refine z_cs3i (fr' := fr - 1) iX11_cuts_29 zmX11_in (c11_in _ _ _) (by omega) (Nat.le_of_ble_eq_true rfl) (fun x M1 hq => ?_)
        obtain ⟨rfl, rfl⟩ := hq
        refine z_ib_ne iX11_cuts_32 (fun h4 => ?_) (fun h4 => ?_)
        · refine z_al iX11_cuts_38 rfl ?_
          refine z_gf iX11_cuts_39 hR.1 rfl ?_
          refine z_il iX11_cuts_42 rfl ?_
          refine z_zald iX11_cuts_43 (hR.2.1 26 (by decide)) (zBn h2).1 (zN3 h2) ?_
          refine z_if_eq iX11_cuts_44 (fun h5 => ?_) (fun h5 => ?_)
          · refine z_al iX11_cuts_60 rfl ?_
            refine z_gf iX11_cuts_61 hR.1 rfl ?_
            refine z_il iX11_cuts_64 rfl ?_
            refine z_zald iX11_cuts_65 (hR.2.1 26 (by decide)) (zBn h2).1 (zN3 h2) ?_
            refine z_if_ne iX11_cuts_66 (fun h6 => ?_) (fun h6 => ?_)
            · exact absurd h5 h6
            · refine z_co iX11_cuts_69 ?_
              refine z_iret iX11_cuts_71 rfl ?_
              refine ⟨_, rfl, ?_⟩
              unfold sp_cuts
              rw [if_neg (fun q => q.elim (fun z => z h1) (fun z => z.elim (fun z => z h2) (fun z => z.elim (fun z => z h3) (fun z => z h4))))]
              rw [if_pos h5]
              exact zEM.rd hR
          · refine z_al iX11_cuts_47 rfl ?_
            refine z_gf iX11_cuts_48 hR.1 rfl ?_
            refine z_il iX11_cuts_51 rfl ?_
            refine z_iald iX11_cuts_52 (hR.2.1 27 (by decide)) (zBn h2).1 (zN3 h2) ?_
            refine z_il iX11_cuts_53 rfl ?_
            refine z_icmp_eq iX11_cuts_54 (fun h7 => ?_) (fun h7 => ?_)
            · refine z_al iX11_cuts_60 rfl ?_
              refine z_gf iX11_cuts_61 hR.1 rfl ?_
              refine z_il iX11_cuts_64 rfl ?_
              refine z_zald iX11_cuts_65 (hR.2.1 26 (by decide)) (zBn h2).1 (zN3 h2) ?_
              refine z_if_ne iX11_cuts_66 (fun h8 => ?_) (fun h8 => ?_)
              · refine z_il iX11_cuts_72 rfl ?_
                refine z_if_le iX11_cuts_74 (fun h9 => ?_) (fun h9 => ?_)
                · refine z_co iX11_cuts_85 ?_
                  refine z_is iX11_cuts_86 ?_
                  refine z_co iX11_cuts_88 ?_
                  refine z_is iX11_cuts_89 ?_
                  have h21 : A 26 (zN s) = 1 := (hV.2.2.2.2.2.2.1 (zN s) (zN3 h2)).1.resolve_left h5
                  have hsz := ((hV.2.2.2.2.2.2.1 (zN s) (zN3 h2)).2 h21).2
                  have hfm : 0 < zN n → 0 ≤ fm.toInt := fun q => by have e0 : zN n = n.toInt.toNat := rfl; have h9b : n.toInt ≤ 0 := zi_le.mp h9; omega
                  refine z_loc [some (zr (40, 0)), some (zi m), some (zi s), some (zi sort), some (zi fm), some (zi n), some (zi 0), some (zi (nI 0))] ⟨rfl, rfl, rfl, rfl, rfl, rfl, rfl, rfl, trivial⟩ ?_
                  refine (l11_cuts (by omega) h1 h2 (zi_le.mp h4.1) (Nat.le_of_lt_succ (zBn h4).2) hfm (zN n) 0 _ _ _ _ _ fm _ (by omega) hR hV hE hsz (by omega) (fun _ _ => rfl)).mono (fun r M' ⟨x, hr, hx⟩ => ⟨x, hr, ?_⟩)
                  unfold sp_cuts
                  rw [if_neg (fun q => q.elim (fun z => z h1) (fun z => z.elim (fun z => z h2) (fun z => z.elim (fun z => z h3) (fun z => z h4))))]
                  rw [if_neg h5, if_neg (fun q : ¬ A 27 (zN s) = sort => q h7)]
                  exact hx.em
                · refine z_il iX11_cuts_77 rfl ?_
                  refine z_if_ge iX11_cuts_79 (fun h10 => ?_) (fun h10 => ?_)
                  · refine z_co iX11_cuts_85 ?_
                    refine z_is iX11_cuts_86 ?_
                    refine z_co iX11_cuts_88 ?_
                    refine z_is iX11_cuts_89 ?_
                    have h21 : A 26 (zN s) = 1 := (hV.2.2.2.2.2.2.1 (zN s) (zN3 h2)).1.resolve_left h5
                    have hsz := ((hV.2.2.2.2.2.2.1 (zN s) (zN3 h2)).2 h21).2
                    have hfm : 0 < zN n → 0 ≤ fm.toInt := fun q => zi_le.mp h10
                    refine z_loc [some (zr (40, 0)), some (zi m), some (zi s), some (zi sort), some (zi fm), some (zi n), some (zi 0), some (zi (nI 0))] ⟨rfl, rfl, rfl, rfl, rfl, rfl, rfl, rfl, trivial⟩ ?_
                    refine (l11_cuts (by omega) h1 h2 (zi_le.mp h4.1) (Nat.le_of_lt_succ (zBn h4).2) hfm (zN n) 0 _ _ _ _ _ fm _ (by omega) hR hV hE hsz (by omega) (fun _ _ => rfl)).mono (fun r M' ⟨x, hr, hx⟩ => ⟨x, hr, ?_⟩)
                    unfold sp_cuts
                    rw [if_neg (fun q => q.elim (fun z => z h1) (fun z => z.elim (fun z => z h2) (fun z => z.elim (fun z => z h3) (fun z => z h4))))]
                    rw [if_neg h5, if_neg (fun q : ¬ A 27 (zN s) = sort => q h7)]
                    exact hx.em
                  · refine z_co iX11_cuts_82 ?_
                    refine z_iret iX11_cuts_84 rfl ?_
                    refine ⟨_, rfl, ?_⟩
                    unfold sp_cuts
                    rw [if_neg (fun q => q.elim (fun z => z h1) (fun z => z.elim (fun z => z h2) (fun z => z.elim (fun z => z h3) (fun z => z h4))))]
                    rw [if_neg h5, if_neg (fun q : ¬ A 27 (zN s) = sort => q h7)]
                    obtain ⟨k, hk⟩ : ∃ k, zN n = k + 1 := ⟨zN n - 1, by have e0 : zN n = n.toInt.toNat := rfl; have h9b : ¬ n.toInt ≤ 0 := fun q => h9 (zi_le.mpr q); omega⟩
                    rw [hk, cuL_n (fun q => h10 (zi_le.mpr q.1))]
                    exact zEM.rd hR
              · exact absurd h8 h5
            · refine z_co iX11_cuts_57 ?_
              refine z_iret iX11_cuts_59 rfl ?_
              refine ⟨_, rfl, ?_⟩
              unfold sp_cuts
              rw [if_neg (fun q => q.elim (fun z => z h1) (fun z => z.elim (fun z => z h2) (fun z => z.elim (fun z => z h3) (fun z => z h4))))]
              rw [if_neg h5, if_pos h7]
              exact zEM.rd hR
        · refine z_co iX11_cuts_35 ?_
          refine z_iret iX11_cuts_37 rfl ?_
          refine ⟨_, rfl, ?_⟩
          unfold sp_cuts
          have hc : ¬ zBw m 0 (I 8 - 1) ∨ ¬ zBw s 0 3 ∨ ¬ zBw sort 0 2 ∨ ¬ zBw n 0 13 := by
            first | exact Or.inl h1 | exact Or.inr (Or.inl h2) | exact Or.inr (Or.inr (Or.inl h3)) | exact Or.inr (Or.inr (Or.inr h4))
          rw [if_pos hc]
          exact zEM.rd hR
theorem zp_cuts {JR : zJR} (m s sort fm n : Int32) : zPI (zInv TRc JR) zX10_cuts zX11_cuts 0 0 [zi m, zi s, zi sort, zi fm, zi n] :=
  zPI_ofE (fun I A L => sp_cuts I A L m s sort fm n) (fun _ _ _ _ _ hf hX hV => px_cuts (by omega) hX hV m s sort fm n) (fun _ _ _ _ _ _ _ hf hR hV hE => pm_cuts (by omega) hR hV hE m s sort fm n) (fun I A L hV hE => hV.cuts m s sort fm n)
