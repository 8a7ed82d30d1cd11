theorem z_mm {Y : zY} {fr cm sm pc : Nat} {ls : zLs} {st : List zVal} {M0 : zM} {Q : Option zVal → zM → Prop} {I J' : zSI} {K' : Int64} {fs : List zVal} (h : fs = mObj I J' K') (k : zV Y fr cm sm pc ls st (zupd M0 (40, 0) (.inr (11, mObj I J' K'))) Q) : zV Y fr cm sm pc ls st (zupd M0 (40, 0) (.inr (11, fs))) Q := by
  subst h
  exact k
/-- all but a token's three is as it was -/
def mkN (J J' : zSI) : Prop := ∀ i, i ≠ 3 → i ≠ 4 → i ≠ 5 → J' i = J i
theorem mkN.s {J J' : zSI} {k : Nat} {v : Int32} (h : mkN J J') (hk : k = 3 ∨ k = 4 ∨ k = 5) : mkN J (zup J' k v) := fun i h3 h4 h5 => (zup_n (by omega)).trans (h i h3 h4 h5)
def mnQ (M0 : zM) (I : zSI) (u : Nat → Int32) (n h : Nat) (J : zSI) : Option zVal → zM → Prop := fun r M' => r = none ∧ ∃ J' K', M' = zupd M0 (40, 0) (.inr (11, mObj I J' K')) ∧ mkAt u n h J' K' ∧ mkN J J'
theorem tkRL {a b : Int32} (h : tkL a) : tkR a b ↔ tkL b := ⟨fun q => q.elim (fun z => z.2) (fun z => (tkLD h z.1).elim), fun q => Or.inl ⟨h, q⟩⟩
theorem tkRD {a b : Int32} (h : tkD a) : tkR a b ↔ tkD b := ⟨fun q => q.elim (fun z => (tkLD z.1 h).elim) (fun z => z.2), fun q => Or.inr ⟨h, q⟩⟩
theorem mk_let {b : Int32} {v : Nat} (h : tkL b) : 27 * Int64.ofNat v + b.toInt64 - 96 = Int64.ofNat (27 * v + zN (b - 96)) := by
  have h1 := tkDg h
  have e1 : b.toInt64 = Int64.ofNat (zN (b - 96)) + 96 := by
    rw [← Int64.toInt_inj]
    have e2 : (Int64.ofNat (zN (b - 96)) + 96).toInt = (zN (b - 96) : Int) + 96 := by
      rw [show Int64.ofNat (zN (b - 96)) + 96 = Int64.ofNat (zN (b - 96) + 96) by rw [Int64.ofNat_add]; rfl]
      have := Int64.toInt_ofNat_of_lt (n := zN (b - 96) + 96) (by omega)
      omega
    rw [e2, Int32.toInt_toInt64]
    omega
  rw [e1, Int64.ofNat_add, Int64.ofNat_mul]
  have e3 : Int64.ofNat 27 = 27 := rfl
  rw [e3]
  grind
theorem mk_dig {b : Int32} {K : Int64} {w : Int32} (h : K.toInt32 = w) : (10 * K + b.toInt64 - 48).toInt32 = w * 10 + (b - 48) := by
  rw [Int64.toInt32_sub, Int64.toInt32_add, Int64.toInt32_mul, Int32.toInt32_toInt64, h]
  have e1 : (10 : Int64).toInt32 = 10 := rfl
  have e2 : (48 : Int64).toInt32 = 48 := rfl
  rw [e1, e2]
  grind
set_option maxRecDepth 20000 in
set_option maxHeartbeats 4000000 in
theorem n_let {fr t n : Nat} {M0 : zM} {I : zSI} {A : zSA} (hf : 2 ≤ fr) (h19 : M0 (41, 19) = some (.inl (0, 960, .inl (A 19)))) (ht : t < 6) (hn16 : n ≤ 160) (hu : ∀ j, j < n → 0 ≤ (zRow A t j).toInt ∧ (zRow A t j).toInt ≤ 255) {p h : Nat} {J0 : zSI} (hp : p < n) (hpe : p = tkSkip (zRow A t) n h) (hL : tkL (zRow A t p)) (hd0 : ∀ i, i < tkEnd (zRow A t) n p - p → tkL (zRow A t (p + i))) : ∀ (m l : Nat) (J : zSI) (K : Int64), p + l + m = tkEnd (zRow A t) n p → (j1 : J 1 = nI (160 * t)) → (j2 : J 2 = nI n) → J 4 = nI p → J 5 = nI (p + l) → mkN J0 J → J 3 = 1 → K = (if l ≤ 7 then Int64.ofNat (tkVal (tkDs (zRow A t) p l)) else -1) → zV zX11_next fr 0 0 104 (zL [some (zr (40, 0)), none, some (zi (nI l))]) [] (zupd M0 (40, 0) (.inr (11, mObj I J K))) (mnQ M0 I (zRow A t) n h J0) := by
  intro m
  induction m with
  | zero =>
    intro l J K hm j1 j2 j4 j5 hN j3 hK
    have hd : ∀ i, i < l → tkL (zRow A t (p + i)) := fun i hi => hd0 i (by omega)
    refine z_al iX11_next_104 rfl ?_
    refine z_al iX11_next_105 rfl ?_
    refine z_gf iX11_next_106 zupd_s rfl ?_
    rw [show J 5 = nI (p + l) from j5]
    refine z_cv1i (fr' := fr - 1) iX11_next_109 zmX11_byteAt zupd_s (c11_byteAt zupd_s ((zupd_k (show (41 : Nat) ≠ 40 by decide)).trans h19) (show _ = nI (160 * t) from j1) (show _ = nI n from j2) ht hn16 (p + l) (by have := tkEnd_le (u := (zRow A t)) hp; omega)) (by omega) (Nat.le_of_ble_eq_true rfl) (fun x M1 hq => ?_)
    obtain ⟨rfl, rfl⟩ := hq
    refine z_co iX11_next_112 ?_
    refine z_co iX11_next_114 ?_
    refine z_cs3i (fr' := fr - 1) iX11_next_116 zmX11_in (c11_in _ _ _) (by omega) (Nat.le_of_ble_eq_true rfl) (fun x M1 hq => ?_)
    obtain ⟨rfl, rfl⟩ := hq
    refine z_ib_eq iX11_next_119 (fun h1 => ?_) (fun h1 => ?_)
    · refine z_goto iX11_next_176 ?_
      refine z_vret iX11_next_360 rfl ?_
      have hl : tkEnd (zRow A t) n p - p = l := by omega
      refine ⟨rfl, J, K, rfl, ⟨?_, by rw [← hpe]; exact j4, fun _ => ?_⟩, hN⟩
      · rw [← hpe, if_pos hp]
        unfold tkCode
        rw [if_pos hL, hl]
        refine Or.inr (Or.inl ⟨j3, _, rfl, ?_⟩)
        by_cases z : l ≤ 7
        · rw [if_pos z] at hK
          exact Or.inl ⟨tkDec_e l 7 z hd, Nat.lt_of_lt_of_le (tkVal_lt l hd) (Nat.pow_le_pow_right (by decide) z), hK⟩
        · rw [if_neg z] at hK
          exact Or.inr ⟨by rw [tkDs_len]; omega, hK⟩
      · rw [← hpe, if_pos hp, j5]
        exact congrArg nI (by omega)
    · exfalso
      rw [show l = tkEnd (zRow A t) n p - p by omega] at h1
      by_cases z : tkEnd (zRow A t) n p < n
      · rw [if_pos (by omega), show p + (tkEnd (zRow A t) n p - p) = tkEnd (zRow A t) n p by omega] at h1
        exact tkEnd_at z ((tkRL hL).mpr h1)
      · rw [if_neg (by omega)] at h1
        exact absurd h1.1 (by decide)
  | succ m ih =>
    intro l J K hm j1 j2 j4 j5 hN j3 hK
    have hd : ∀ i, i < l + 1 → tkL (zRow A t (p + i)) := fun i hi => hd0 i (by omega)
    refine z_al iX11_next_104 rfl ?_
    refine z_al iX11_next_105 rfl ?_
    refine z_gf iX11_next_106 zupd_s rfl ?_
    rw [show J 5 = nI (p + l) from j5]
    refine z_cv1i (fr' := fr - 1) iX11_next_109 zmX11_byteAt zupd_s (c11_byteAt zupd_s ((zupd_k (show (41 : Nat) ≠ 40 by decide)).trans h19) (show _ = nI (160 * t) from j1) (show _ = nI n from j2) ht hn16 (p + l) (by have := tkEnd_le (u := (zRow A t)) hp; omega)) (by omega) (Nat.le_of_ble_eq_true rfl) (fun x M1 hq => ?_)
    obtain ⟨rfl, rfl⟩ := hq
    refine z_co iX11_next_112 ?_
    refine z_co iX11_next_114 ?_
    refine z_cs3i (fr' := fr - 1) iX11_next_116 zmX11_in (c11_in _ _ _) (by omega) (Nat.le_of_ble_eq_true rfl) (fun x M1 hq => ?_)
    obtain ⟨rfl, rfl⟩ := hq
    refine z_ib_eq iX11_next_119 (fun h1 => ?_) (fun h1 => ?_)
    · exact absurd (by rw [if_pos (show p + l < n by have := tkEnd_le (u := (zRow A t)) hp; omega)]; exact hd l (by omega)) h1
    · refine z_al iX11_next_122 rfl ?_
      refine z_il iX11_next_123 rfl ?_
      refine z_co iX11_next_124 ?_
      refine z_icmp_ge iX11_next_126 (fun h2 => ?_) (fun h2 => ?_)
      · have h7 := h2
        refine z_cl iX11_next_154 ?_
        refine z_pf2 iX11_next_157 (by decide) (Nat.le_of_ble_eq_true rfl) trivial ?_
        refine z_in iX11_next_160 rfl ?_
        refine z_al iX11_next_163 rfl ?_
        refine z_dup iX11_next_164 ?_
        refine z_gf iX11_next_165 zupd_s rfl ?_
        refine z_co iX11_next_168 ?_
        refine z_iadd iX11_next_169 ?_
        refine z_pf2 iX11_next_170 (by decide) (Nat.le_of_ble_eq_true rfl) trivial ?_
        refine z_goto iX11_next_173 ?_
        refine z_mm (J' := zup J 5 (J 5 + 1)) rfl ?_
        refine z_loc [some (zr (40, 0)), none, some (zi (nI (l + 1)))] ⟨rfl, ?_, trivial⟩ (ih (l + 1) _ _ (by omega) j1 j2 j4 ?_ (hN.s (Or.inr (Or.inr rfl))) j3 ?_)
        · show some (zi (nI l + 1)) = _
          rw [nI_1]
        · show J 5 + 1 = _
          rw [j5, show p + (l + 1) = p + l + 1 by omega, nI_1]
        · have e1 := nI_toInt (n := l) (by have := tkEnd_le (u := (zRow A t)) hp; omega)
          simp only [zi_le, Int32.reduceToInt, e1] at h7
          rw [if_neg (by omega)]
      · have h7 := h2
        refine z_cl iX11_next_129 ?_
        refine z_al iX11_next_132 rfl ?_
        refine z_gf iX11_next_133 zupd_s rfl ?_
        refine z_lmul iX11_next_136 ?_
        refine z_al iX11_next_137 rfl ?_
        refine z_al iX11_next_138 rfl ?_
        refine z_gf iX11_next_139 zupd_s rfl ?_
        rw [show J 5 = nI (p + l) from j5]
        refine z_cv1i (fr' := fr - 1) iX11_next_142 zmX11_byteAt zupd_s (c11_byteAt zupd_s ((zupd_k (show (41 : Nat) ≠ 40 by decide)).trans h19) (show _ = nI (160 * t) from j1) (show _ = nI n from j2) ht hn16 (p + l) (by have := tkEnd_le (u := (zRow A t)) hp; omega)) (by omega) (Nat.le_of_ble_eq_true rfl) (fun x M1 hq => ?_)
        obtain ⟨rfl, rfl⟩ := hq
        refine z_i2l iX11_next_145 ?_
        refine z_ladd iX11_next_146 ?_
        refine z_cl iX11_next_147 ?_
        refine z_lsub iX11_next_150 ?_
        refine z_goto iX11_next_151 ?_
        refine z_pf2 iX11_next_157 (by decide) (Nat.le_of_ble_eq_true rfl) trivial ?_
        refine z_in iX11_next_160 rfl ?_
        refine z_al iX11_next_163 rfl ?_
        refine z_dup iX11_next_164 ?_
        refine z_gf iX11_next_165 zupd_s rfl ?_
        refine z_co iX11_next_168 ?_
        refine z_iadd iX11_next_169 ?_
        refine z_pf2 iX11_next_170 (by decide) (Nat.le_of_ble_eq_true rfl) trivial ?_
        refine z_goto iX11_next_173 ?_
        refine z_mm (J' := zup J 5 (J 5 + 1)) rfl ?_
        refine z_loc [some (zr (40, 0)), none, some (zi (nI (l + 1)))] ⟨rfl, ?_, trivial⟩ (ih (l + 1) _ _ (by omega) j1 j2 j4 ?_ (hN.s (Or.inr (Or.inr rfl))) j3 ?_)
        · show some (zi (nI l + 1)) = _
          rw [nI_1]
        · show J 5 + 1 = _
          rw [j5, show p + (l + 1) = p + l + 1 by omega, nI_1]
        · have e1 := nI_toInt (n := l) (by have := tkEnd_le (u := (zRow A t)) hp; omega)
          simp only [zi_le, Int32.reduceToInt, e1] at h7
          rw [if_pos (by omega)] at hK
          rw [if_pos (show p + l < n by have := tkEnd_le (u := (zRow A t)) hp; omega), if_pos (show l + 1 ≤ 7 by omega), hK, mk_let (hd l (by omega))]
          exact (congrArg Int64.ofNat (tkVal_s (ds := tkDs (zRow A t) p l))).symm
set_option maxRecDepth 20000 in
set_option maxHeartbeats 4000000 in
theorem n_dig {fr t n : Nat} {M0 : zM} {I : zSI} {A : zSA} (hf : 2 ≤ fr) (h19 : M0 (41, 19) = some (.inl (0, 960, .inl (A 19)))) (ht : t < 6) (hn16 : n ≤ 160) (hu : ∀ j, j < n → 0 ≤ (zRow A t j).toInt ∧ (zRow A t j).toInt ≤ 255) {p h : Nat} {J0 : zSI} (hp : p < n) (hpe : p = tkSkip (zRow A t) n h) (hL : tkD (zRow A t p)) (hd0 : ∀ i, i < tkEnd (zRow A t) n p - p → tkD (zRow A t (p + i))) : ∀ (m l : Nat) (J : zSI) (K : Int64), p + l + m = tkEnd (zRow A t) n p → (j1 : J 1 = nI (160 * t)) → (j2 : J 2 = nI n) → J 4 = nI p → J 5 = nI (p + l) → mkN J0 J → J 3 = 2 → (l ≤ 4 → K.toInt32 = tkNum (zRow A t) p l) → zV zX11_next fr 0 0 202 (zL [some (zr (40, 0)), none, some (zi (nI l))]) [] (zupd M0 (40, 0) (.inr (11, mObj I J K))) (mnQ M0 I (zRow A t) n h J0) := by
  intro m
  induction m with
  | zero =>
    intro l J K hm j1 j2 j4 j5 hN j3 hK
    have hd : ∀ i, i < l → tkD (zRow A t (p + i)) := fun i hi => hd0 i (by omega)
    refine z_al iX11_next_202 rfl ?_
    refine z_al iX11_next_203 rfl ?_
    refine z_gf iX11_next_204 zupd_s rfl ?_
    rw [show J 5 = nI (p + l) from j5]
    refine z_cv1i (fr' := fr - 1) iX11_next_207 zmX11_byteAt zupd_s (c11_byteAt zupd_s ((zupd_k (show (41 : Nat) ≠ 40 by decide)).trans h19) (show _ = nI (160 * t) from j1) (show _ = nI n from j2) ht hn16 (p + l) (by have := tkEnd_le (u := (zRow A t)) hp; omega)) (by omega) (Nat.le_of_ble_eq_true rfl) (fun x M1 hq => ?_)
    obtain ⟨rfl, rfl⟩ := hq
    refine z_co iX11_next_210 ?_
    refine z_co iX11_next_212 ?_
    refine z_cs3i (fr' := fr - 1) iX11_next_214 zmX11_in (c11_in _ _ _) (by omega) (Nat.le_of_ble_eq_true rfl) (fun x M1 hq => ?_)
    obtain ⟨rfl, rfl⟩ := hq
    refine z_ib_eq iX11_next_217 (fun h1 => ?_) (fun h1 => ?_)
    · refine z_al iX11_next_274 rfl ?_
      refine z_il iX11_next_275 rfl ?_
      refine z_co iX11_next_276 ?_
      refine z_icmp_le iX11_next_277 (fun h2 => ?_) (fun h2 => ?_)
      · have h7 := h2
        refine z_co iX11_next_284 ?_
        refine z_pf2 iX11_next_285 (by decide) (Nat.le_of_ble_eq_true rfl) trivial ?_
        refine z_goto iX11_next_288 ?_
        refine z_vret iX11_next_360 rfl ?_
        have hl : tkEnd (zRow A t) n p - p = l := by omega
        have e1 := nI_toInt (n := l) (by have := tkEnd_le (u := (zRow A t)) hp; omega)
        refine ⟨rfl, zup J 3 2, K, rfl, ⟨?_, by rw [← hpe]; exact j4, fun _ => ?_⟩, hN.s (Or.inl rfl)⟩
        · rw [← hpe, if_pos hp]
          unfold tkCode
          rw [if_neg (fun q => tkLD q hL), if_pos hL, hl]
          simp only [zi_le, Int32.reduceToInt, e1] at h7
          rw [if_neg (by omega)]
          exact Or.inr (Or.inr (Or.inl ⟨rfl, zi_le.mpr (tkNum_b l (by omega) hd).1, hK (by omega)⟩))
        · rw [← hpe, if_pos hp]
          exact (show J 5 = _ from j5).trans (congrArg nI (by omega))
      · have h7 := h2
        refine z_co iX11_next_280 ?_
        refine z_goto iX11_next_281 ?_
        refine z_pf2 iX11_next_285 (by decide) (Nat.le_of_ble_eq_true rfl) trivial ?_
        refine z_goto iX11_next_288 ?_
        refine z_vret iX11_next_360 rfl ?_
        have hl : tkEnd (zRow A t) n p - p = l := by omega
        have e1 := nI_toInt (n := l) (by have := tkEnd_le (u := (zRow A t)) hp; omega)
        refine ⟨rfl, zup J 3 4, K, rfl, ⟨?_, by rw [← hpe]; exact j4, fun _ => ?_⟩, hN.s (Or.inl rfl)⟩
        · rw [← hpe, if_pos hp]
          unfold tkCode
          rw [if_neg (fun q => tkLD q hL), if_pos hL, hl]
          simp only [zi_le, Int32.reduceToInt, e1] at h7
          rw [if_pos (by omega)]
          exact Or.inr (Or.inr (Or.inr (Or.inr ⟨rfl, rfl⟩)))
        · rw [← hpe, if_pos hp]
          exact (show J 5 = _ from j5).trans (congrArg nI (by omega))
    · exfalso
      rw [show l = tkEnd (zRow A t) n p - p by omega] at h1
      by_cases z : tkEnd (zRow A t) n p < n
      · rw [if_pos (by omega), show p + (tkEnd (zRow A t) n p - p) = tkEnd (zRow A t) n p by omega] at h1
        exact tkEnd_at z ((tkRD hL).mpr h1)
      · rw [if_neg (by omega)] at h1
        exact absurd h1.1 (by decide)
  | succ m ih =>
    intro l J K hm j1 j2 j4 j5 hN j3 hK
    have hd : ∀ i, i < l + 1 → tkD (zRow A t (p + i)) := fun i hi => hd0 i (by omega)
    refine z_al iX11_next_202 rfl ?_
    refine z_al iX11_next_203 rfl ?_
    refine z_gf iX11_next_204 zupd_s rfl ?_
    rw [show J 5 = nI (p + l) from j5]
    refine z_cv1i (fr' := fr - 1) iX11_next_207 zmX11_byteAt zupd_s (c11_byteAt zupd_s ((zupd_k (show (41 : Nat) ≠ 40 by decide)).trans h19) (show _ = nI (160 * t) from j1) (show _ = nI n from j2) ht hn16 (p + l) (by have := tkEnd_le (u := (zRow A t)) hp; omega)) (by omega) (Nat.le_of_ble_eq_true rfl) (fun x M1 hq => ?_)
    obtain ⟨rfl, rfl⟩ := hq
    refine z_co iX11_next_210 ?_
    refine z_co iX11_next_212 ?_
    refine z_cs3i (fr' := fr - 1) iX11_next_214 zmX11_in (c11_in _ _ _) (by omega) (Nat.le_of_ble_eq_true rfl) (fun x M1 hq => ?_)
    obtain ⟨rfl, rfl⟩ := hq
    refine z_ib_eq iX11_next_217 (fun h1 => ?_) (fun h1 => ?_)
    · exact absurd (by rw [if_pos (show p + l < n by have := tkEnd_le (u := (zRow A t)) hp; omega)]; exact hd l (by omega)) h1
    · refine z_al iX11_next_220 rfl ?_
      refine z_il iX11_next_221 rfl ?_
      refine z_co iX11_next_222 ?_
      refine z_icmp_ge iX11_next_223 (fun h2 => ?_) (fun h2 => ?_)
      · have h7 := h2
        refine z_al iX11_next_251 rfl ?_
        refine z_gf iX11_next_252 zupd_s rfl ?_
        refine z_pf2 iX11_next_255 (by decide) (Nat.le_of_ble_eq_true rfl) trivial ?_
        refine z_in iX11_next_258 rfl ?_
        refine z_al iX11_next_261 rfl ?_
        refine z_dup iX11_next_262 ?_
        refine z_gf iX11_next_263 zupd_s rfl ?_
        refine z_co iX11_next_266 ?_
        refine z_iadd iX11_next_267 ?_
        refine z_pf2 iX11_next_268 (by decide) (Nat.le_of_ble_eq_true rfl) trivial ?_
        refine z_goto iX11_next_271 ?_
        refine z_mm (J' := zup J 5 (J 5 + 1)) rfl ?_
        refine z_loc [some (zr (40, 0)), none, some (zi (nI (l + 1)))] ⟨rfl, ?_, trivial⟩ (ih (l + 1) _ _ (by omega) j1 j2 j4 ?_ (hN.s (Or.inr (Or.inr rfl))) j3 (fun z => ?_))
        · show some (zi (nI l + 1)) = _
          rw [nI_1]
        · show J 5 + 1 = _
          rw [j5, show p + (l + 1) = p + l + 1 by omega, nI_1]
        · have e1 := nI_toInt (n := l) (by have := tkEnd_le (u := (zRow A t)) hp; omega)
          simp only [zi_le, Int32.reduceToInt, e1] at h7
          omega
      · have h7 := h2
        refine z_cl iX11_next_226 ?_
        refine z_al iX11_next_229 rfl ?_
        refine z_gf iX11_next_230 zupd_s rfl ?_
        refine z_lmul iX11_next_233 ?_
        refine z_al iX11_next_234 rfl ?_
        refine z_al iX11_next_235 rfl ?_
        refine z_gf iX11_next_236 zupd_s rfl ?_
        rw [show J 5 = nI (p + l) from j5]
        refine z_cv1i (fr' := fr - 1) iX11_next_239 zmX11_byteAt zupd_s (c11_byteAt zupd_s ((zupd_k (show (41 : Nat) ≠ 40 by decide)).trans h19) (show _ = nI (160 * t) from j1) (show _ = nI n from j2) ht hn16 (p + l) (by have := tkEnd_le (u := (zRow A t)) hp; omega)) (by omega) (Nat.le_of_ble_eq_true rfl) (fun x M1 hq => ?_)
        obtain ⟨rfl, rfl⟩ := hq
        refine z_i2l iX11_next_242 ?_
        refine z_ladd iX11_next_243 ?_
        refine z_cl iX11_next_244 ?_
        refine z_lsub iX11_next_247 ?_
        refine z_goto iX11_next_248 ?_
        refine z_pf2 iX11_next_255 (by decide) (Nat.le_of_ble_eq_true rfl) trivial ?_
        refine z_in iX11_next_258 rfl ?_
        refine z_al iX11_next_261 rfl ?_
        refine z_dup iX11_next_262 ?_
        refine z_gf iX11_next_263 zupd_s rfl ?_
        refine z_co iX11_next_266 ?_
        refine z_iadd iX11_next_267 ?_
        refine z_pf2 iX11_next_268 (by decide) (Nat.le_of_ble_eq_true rfl) trivial ?_
        refine z_goto iX11_next_271 ?_
        refine z_mm (J' := zup J 5 (J 5 + 1)) rfl ?_
        refine z_loc [some (zr (40, 0)), none, some (zi (nI (l + 1)))] ⟨rfl, ?_, trivial⟩ (ih (l + 1) _ _ (by omega) j1 j2 j4 ?_ (hN.s (Or.inr (Or.inr rfl))) j3 (fun z => ?_))
        · show some (zi (nI l + 1)) = _
          rw [nI_1]
        · show J 5 + 1 = _
          rw [j5, show p + (l + 1) = p + l + 1 by omega, nI_1]
        · rw [if_pos (show p + l < n by have := tkEnd_le (u := (zRow A t)) hp; omega), mk_dig (hK (by omega))]
          rfl
set_option maxRecDepth 20000 in
set_option maxHeartbeats 4000000 in
theorem n_blank {fr t n : Nat} {M0 : zM} {I : zSI} {A : zSA} (hf : 2 ≤ fr) (h19 : M0 (41, 19) = some (.inl (0, 960, .inl (A 19)))) (ht : t < 6) (hn16 : n ≤ 160) (hu : ∀ j, j < n → 0 ≤ (zRow A t j).toInt ∧ (zRow A t j).toInt ≤ 255) {K : Int64} {Q : Option zVal → zM → Prop} : ∀ (m h : Nat) (J : zSI), h + m = n → (j1 : J 1 = nI (160 * t)) → (j2 : J 2 = nI n) → (j5 : J 5 = nI h) → (KK : ∀ J' : zSI, J' 1 = nI (160 * t) → J' 2 = nI n → J' 5 = nI (tkScan (fun i => decide (tkB (zRow A t i))) m h) → (∀ i, i ≠ 5 → J' i = J i) → zV zX11_next fr 0 0 39 (zL [some (zr (40, 0))]) [] (zupd M0 (40, 0) (.inr (11, mObj I J' K))) Q) → zV zX11_next fr 0 0 0 (zL [some (zr (40, 0))]) [] (zupd M0 (40, 0) (.inr (11, mObj I J K))) Q := by
  intro m
  induction m with
  | zero =>
    intro h J hm j1 j2 j5 KK
    refine z_al iX11_next_0 rfl ?_
    refine z_al iX11_next_1 rfl ?_
    refine z_gf iX11_next_2 zupd_s rfl ?_
    rw [show J 5 = nI h from j5]
    refine z_cv1i (fr' := fr - 1) iX11_next_5 zmX11_byteAt zupd_s (c11_byteAt zupd_s ((zupd_k (show (41 : Nat) ≠ 40 by decide)).trans h19) (show _ = nI (160 * t) from j1) (show _ = nI n from j2) ht hn16 h (by omega)) (by omega) (Nat.le_of_ble_eq_true rfl) (fun x M1 hq => ?_)
    obtain ⟨rfl, rfl⟩ := hq
    refine z_co iX11_next_8 ?_
    refine z_icmp_eq iX11_next_10 (fun h1 => ?_) (fun h1 => ?_)
    · exfalso
      rw [if_neg (by omega)] at h1
      exact absurd h1 (by decide)
    · refine z_al iX11_next_13 rfl ?_
      refine z_al iX11_next_14 rfl ?_
      refine z_gf iX11_next_15 zupd_s rfl ?_
      rw [show J 5 = nI h from j5]
      refine z_cv1i (fr' := fr - 1) iX11_next_18 zmX11_byteAt zupd_s (c11_byteAt zupd_s ((zupd_k (show (41 : Nat) ≠ 40 by decide)).trans h19) (show _ = nI (160 * t) from j1) (show _ = nI n from j2) ht hn16 h (by omega)) (by omega) (Nat.le_of_ble_eq_true rfl) (fun x M1 hq => ?_)
      obtain ⟨rfl, rfl⟩ := hq
      refine z_co iX11_next_21 ?_
      refine z_icmp_ne iX11_next_23 (fun h2 => ?_) (fun h2 => ?_)
      · exact KK J j1 j2 j5 (fun _ _ => rfl)
      · exfalso
        rw [if_neg (by omega)] at h2
        exact absurd h2 (by decide)
  | succ m ih =>
    intro h J hm j1 j2 j5 KK
    refine z_al iX11_next_0 rfl ?_
    refine z_al iX11_next_1 rfl ?_
    refine z_gf iX11_next_2 zupd_s rfl ?_
    rw [show J 5 = nI h from j5]
    refine z_cv1i (fr' := fr - 1) iX11_next_5 zmX11_byteAt zupd_s (c11_byteAt zupd_s ((zupd_k (show (41 : Nat) ≠ 40 by decide)).trans h19) (show _ = nI (160 * t) from j1) (show _ = nI n from j2) ht hn16 h (by omega)) (by omega) (Nat.le_of_ble_eq_true rfl) (fun x M1 hq => ?_)
    obtain ⟨rfl, rfl⟩ := hq
    refine z_co iX11_next_8 ?_
    refine z_icmp_eq iX11_next_10 (fun h1 => ?_) (fun h1 => ?_)
    · rw [if_pos (by omega)] at h1
      have hz : tkB (zRow A t h) := Or.inl h1
      refine z_al iX11_next_26 rfl ?_
      refine z_dup iX11_next_27 ?_
      refine z_gf iX11_next_28 zupd_s rfl ?_
      refine z_co iX11_next_31 ?_
      refine z_iadd iX11_next_32 ?_
      refine z_pf2 iX11_next_33 (by decide) (Nat.le_of_ble_eq_true rfl) trivial ?_
      refine z_goto iX11_next_36 ?_
      unfold tkScan at KK
      rw [if_pos (decide_eq_true hz)] at KK
      refine z_mm (J' := zup J 5 (J 5 + 1)) rfl ?_
      refine z_loc [some (zr (40, 0))] ⟨rfl, trivial⟩ (ih (h + 1) _ (by omega) j1 j2 ?_ (fun J' a b c d => KK J' a b c (fun i hi => (d i hi).trans (zup_n hi))))
      show J 5 + 1 = _
      rw [j5, nI_1]
    · refine z_al iX11_next_13 rfl ?_
      refine z_al iX11_next_14 rfl ?_
      refine z_gf iX11_next_15 zupd_s rfl ?_
      rw [show J 5 = nI h from j5]
      refine z_cv1i (fr' := fr - 1) iX11_next_18 zmX11_byteAt zupd_s (c11_byteAt zupd_s ((zupd_k (show (41 : Nat) ≠ 40 by decide)).trans h19) (show _ = nI (160 * t) from j1) (show _ = nI n from j2) ht hn16 h (by omega)) (by omega) (Nat.le_of_ble_eq_true rfl) (fun x M1 hq => ?_)
      obtain ⟨rfl, rfl⟩ := hq
      refine z_co iX11_next_21 ?_
      refine z_icmp_ne iX11_next_23 (fun h2 => ?_) (fun h2 => ?_)
      · rw [if_pos (by omega)] at h2 h1
        have hz : ¬ tkB (zRow A t h) := fun q => q.elim h1 h2
        unfold tkScan at KK
        rw [if_neg (fun q => hz (of_decide_eq_true q))] at KK
        exact KK J j1 j2 j5 (fun _ _ => rfl)
      · rw [if_pos (by omega)] at h2
        have hz : tkB (zRow A t h) := Or.inr h2
        refine z_al iX11_next_26 rfl ?_
        refine z_dup iX11_next_27 ?_
        refine z_gf iX11_next_28 zupd_s rfl ?_
        refine z_co iX11_next_31 ?_
        refine z_iadd iX11_next_32 ?_
        refine z_pf2 iX11_next_33 (by decide) (Nat.le_of_ble_eq_true rfl) trivial ?_
        refine z_goto iX11_next_36 ?_
        unfold tkScan at KK
        rw [if_pos (decide_eq_true hz)] at KK
        refine z_mm (J' := zup J 5 (J 5 + 1)) rfl ?_
        refine z_loc [some (zr (40, 0))] ⟨rfl, trivial⟩ (ih (h + 1) _ (by omega) j1 j2 ?_ (fun J' a b c d => KK J' a b c (fun i hi => (d i hi).trans (zup_n hi))))
        show J 5 + 1 = _
        rw [j5, nI_1]
set_option maxRecDepth 20000 in
set_option maxHeartbeats 4000000 in
theorem n_main {fr t n : Nat} {M0 : zM} {I : zSI} {A : zSA} (hf : 2 ≤ fr) (h19 : M0 (41, 19) = some (.inl (0, 960, .inl (A 19)))) (ht : t < 6) (hn16 : n ≤ 160) (hu : ∀ j, j < n → 0 ≤ (zRow A t j).toInt ∧ (zRow A t j).toInt ≤ 255) {p h : Nat} {J0 J : zSI} {K : Int64} (hpn : p ≤ n) (hpe : p = tkSkip (zRow A t) n h) (j1 : J 1 = nI (160 * t)) (j2 : J 2 = nI n) (j5 : J 5 = nI p) (hN : mkN J0 J) : zV zX11_next fr 0 0 39 (zL [some (zr (40, 0))]) [] (zupd M0 (40, 0) (.inr (11, mObj I J K))) (mnQ M0 I (zRow A t) n h J0) := by
  refine z_al iX11_next_39 rfl ?_
  refine z_al iX11_next_40 rfl ?_
  refine z_gf iX11_next_41 zupd_s rfl ?_
  refine z_pf2 iX11_next_44 (by decide) (Nat.le_of_ble_eq_true rfl) trivial ?_
  refine z_mm (J' := zup J 4 (J 5)) rfl ?_
  refine z_al iX11_next_47 rfl ?_
  refine z_al iX11_next_48 rfl ?_
  refine z_gf iX11_next_49 zupd_s rfl ?_
  rw [show zup J 4 (J 5) 5 = nI p from j5]
  refine z_cv1i (fr' := fr - 1) iX11_next_52 zmX11_byteAt zupd_s (c11_byteAt (J := zup J 4 (J 5)) zupd_s ((zupd_k (show (41 : Nat) ≠ 40 by decide)).trans h19) j1 j2 ht hn16 p (by omega)) (by omega) (Nat.le_of_ble_eq_true rfl) (fun x M1 hq => ?_)
  obtain ⟨rfl, rfl⟩ := hq
  refine z_is iX11_next_55 ?_
  refine z_al iX11_next_56 rfl ?_
  refine z_co iX11_next_57 ?_
  refine z_pf2 iX11_next_58 (by decide) (Nat.le_of_ble_eq_true rfl) trivial ?_
  refine z_il iX11_next_61 rfl ?_
  refine z_if_ge iX11_next_62 (fun h1 => ?_) (fun h1 => ?_)
  · have hp : p < n := Decidable.byContradiction (fun q => by rw [if_neg q] at h1; exact absurd h1 (by decide))
    rw [if_pos hp]
    refine z_il iX11_next_81 rfl ?_
    refine z_co iX11_next_82 ?_
    refine z_co iX11_next_84 ?_
    refine z_cs3i (fr' := fr - 1) iX11_next_86 zmX11_in (c11_in _ _ _) (by omega) (Nat.le_of_ble_eq_true rfl) (fun x M1 hq => ?_)
    obtain ⟨rfl, rfl⟩ := hq
    refine z_ib_eq iX11_next_89 (fun h2 => ?_) (fun h2 => ?_)
    · have hl2 := h2
      refine z_il iX11_next_179 rfl ?_
      refine z_co iX11_next_180 ?_
      refine z_co iX11_next_182 ?_
      refine z_cs3i (fr' := fr - 1) iX11_next_184 zmX11_in (c11_in _ _ _) (by omega) (Nat.le_of_ble_eq_true rfl) (fun x M1 hq => ?_)
      obtain ⟨rfl, rfl⟩ := hq
      refine z_ib_eq iX11_next_187 (fun h3 => ?_) (fun h3 => ?_)
      · have hd2 := h3
        refine z_il iX11_next_291 rfl ?_
        refine z_co iX11_next_292 ?_
        refine z_icmp_eq iX11_next_294 (fun h4 => ?_) (fun h4 => ?_)
        · have hs : zRow A t p = 40 ∨ zRow A t p = 41 ∨ zRow A t p = 59 ∨ zRow A t p = 43 ∨ zRow A t p = 45 ∨ zRow A t p = 42 ∨ zRow A t p = 60 ∨ zRow A t p = 61 := by simp only [h4, true_or, or_true]
          refine z_al iX11_next_339 rfl ?_
          refine z_co iX11_next_340 ?_
          refine z_pf2 iX11_next_341 (by decide) (Nat.le_of_ble_eq_true rfl) trivial ?_
          refine z_al iX11_next_344 rfl ?_
          refine z_il iX11_next_345 rfl ?_
          refine z_i2l iX11_next_346 ?_
          refine z_pf2 iX11_next_347 (by decide) (Nat.le_of_ble_eq_true rfl) trivial ?_
          refine z_al iX11_next_350 rfl ?_
          refine z_dup iX11_next_351 ?_
          refine z_gf iX11_next_352 zupd_s rfl ?_
          refine z_co iX11_next_355 ?_
          refine z_iadd iX11_next_356 ?_
          refine z_pf2 iX11_next_357 (by decide) (Nat.le_of_ble_eq_true rfl) trivial ?_
          refine z_vret iX11_next_360 rfl ?_
          have hsg : tkSign (zRow A t p) = -(zRow A t p) := if_pos hs
          have hend : tkEnd (zRow A t) n p = p + 1 := tkScan_eq (Nat.le_refl _) (by omega) (fun j q1 q2 => absurd q1 (by omega)) (fun _ q => absurd (of_decide_eq_true q) (fun z => z.elim (fun w => hl2 w.1) (fun w => hd2 w.1)))
          refine ⟨rfl, zup (zup (zup (zup J 4 (J 5)) 3 4) 3 3) 5 (J 5 + 1), _, rfl, ⟨?_, ?_, fun _ => ?_⟩, (((hN.s (Or.inr (Or.inl rfl))).s (Or.inl rfl)).s (Or.inl rfl)).s (Or.inr (Or.inr rfl))⟩
          · rw [← hpe, if_pos hp]
            unfold tkCode
            rw [if_neg hl2, if_neg hd2, hsg]
            refine Or.inr (Or.inr (Or.inr (Or.inl ⟨rfl, ?_, ?_⟩)))
            · rw [show - -(zRow A t p) = zRow A t p by grind]
            · rcases hs with q | q | q | q | q | q | q | q <;> rw [q] <;> decide
          · rw [← hpe]
            exact j5
          · rw [← hpe, if_pos hp, hend]
            show J 5 + 1 = _
            rw [j5, nI_1]
        · refine z_il iX11_next_297 rfl ?_
          refine z_co iX11_next_298 ?_
          refine z_icmp_eq iX11_next_300 (fun h5 => ?_) (fun h5 => ?_)
          · have hs : zRow A t p = 40 ∨ zRow A t p = 41 ∨ zRow A t p = 59 ∨ zRow A t p = 43 ∨ zRow A t p = 45 ∨ zRow A t p = 42 ∨ zRow A t p = 60 ∨ zRow A t p = 61 := by simp only [h5, true_or, or_true]
            refine z_al iX11_next_339 rfl ?_
            refine z_co iX11_next_340 ?_
            refine z_pf2 iX11_next_341 (by decide) (Nat.le_of_ble_eq_true rfl) trivial ?_
            refine z_al iX11_next_344 rfl ?_
            refine z_il iX11_next_345 rfl ?_
            refine z_i2l iX11_next_346 ?_
            refine z_pf2 iX11_next_347 (by decide) (Nat.le_of_ble_eq_true rfl) trivial ?_
            refine z_al iX11_next_350 rfl ?_
            refine z_dup iX11_next_351 ?_
            refine z_gf iX11_next_352 zupd_s rfl ?_
            refine z_co iX11_next_355 ?_
            refine z_iadd iX11_next_356 ?_
            refine z_pf2 iX11_next_357 (by decide) (Nat.le_of_ble_eq_true rfl) trivial ?_
            refine z_vret iX11_next_360 rfl ?_
            have hsg : tkSign (zRow A t p) = -(zRow A t p) := if_pos hs
            have hend : tkEnd (zRow A t) n p = p + 1 := tkScan_eq (Nat.le_refl _) (by omega) (fun j q1 q2 => absurd q1 (by omega)) (fun _ q => absurd (of_decide_eq_true q) (fun z => z.elim (fun w => hl2 w.1) (fun w => hd2 w.1)))
            refine ⟨rfl, zup (zup (zup (zup J 4 (J 5)) 3 4) 3 3) 5 (J 5 + 1), _, rfl, ⟨?_, ?_, fun _ => ?_⟩, (((hN.s (Or.inr (Or.inl rfl))).s (Or.inl rfl)).s (Or.inl rfl)).s (Or.inr (Or.inr rfl))⟩
            · rw [← hpe, if_pos hp]
              unfold tkCode
              rw [if_neg hl2, if_neg hd2, hsg]
              refine Or.inr (Or.inr (Or.inr (Or.inl ⟨rfl, ?_, ?_⟩)))
              · rw [show - -(zRow A t p) = zRow A t p by grind]
              · rcases hs with q | q | q | q | q | q | q | q <;> rw [q] <;> decide
            · rw [← hpe]
              exact j5
            · rw [← hpe, if_pos hp, hend]
              show J 5 + 1 = _
              rw [j5, nI_1]
          · refine z_il iX11_next_303 rfl ?_
            refine z_co iX11_next_304 ?_
            refine z_icmp_eq iX11_next_306 (fun h6 => ?_) (fun h6 => ?_)
            · have hs : zRow A t p = 40 ∨ zRow A t p = 41 ∨ zRow A t p = 59 ∨ zRow A t p = 43 ∨ zRow A t p = 45 ∨ zRow A t p = 42 ∨ zRow A t p = 60 ∨ zRow A t p = 61 := by simp only [h6, true_or, or_true]
              refine z_al iX11_next_339 rfl ?_
              refine z_co iX11_next_340 ?_
              refine z_pf2 iX11_next_341 (by decide) (Nat.le_of_ble_eq_true rfl) trivial ?_
              refine z_al iX11_next_344 rfl ?_
              refine z_il iX11_next_345 rfl ?_
              refine z_i2l iX11_next_346 ?_
              refine z_pf2 iX11_next_347 (by decide) (Nat.le_of_ble_eq_true rfl) trivial ?_
              refine z_al iX11_next_350 rfl ?_
              refine z_dup iX11_next_351 ?_
              refine z_gf iX11_next_352 zupd_s rfl ?_
              refine z_co iX11_next_355 ?_
              refine z_iadd iX11_next_356 ?_
              refine z_pf2 iX11_next_357 (by decide) (Nat.le_of_ble_eq_true rfl) trivial ?_
              refine z_vret iX11_next_360 rfl ?_
              have hsg : tkSign (zRow A t p) = -(zRow A t p) := if_pos hs
              have hend : tkEnd (zRow A t) n p = p + 1 := tkScan_eq (Nat.le_refl _) (by omega) (fun j q1 q2 => absurd q1 (by omega)) (fun _ q => absurd (of_decide_eq_true q) (fun z => z.elim (fun w => hl2 w.1) (fun w => hd2 w.1)))
              refine ⟨rfl, zup (zup (zup (zup J 4 (J 5)) 3 4) 3 3) 5 (J 5 + 1), _, rfl, ⟨?_, ?_, fun _ => ?_⟩, (((hN.s (Or.inr (Or.inl rfl))).s (Or.inl rfl)).s (Or.inl rfl)).s (Or.inr (Or.inr rfl))⟩
              · rw [← hpe, if_pos hp]
                unfold tkCode
                rw [if_neg hl2, if_neg hd2, hsg]
                refine Or.inr (Or.inr (Or.inr (Or.inl ⟨rfl, ?_, ?_⟩)))
                · rw [show - -(zRow A t p) = zRow A t p by grind]
                · rcases hs with q | q | q | q | q | q | q | q <;> rw [q] <;> decide
              · rw [← hpe]
                exact j5
              · rw [← hpe, if_pos hp, hend]
                show J 5 + 1 = _
                rw [j5, nI_1]
            · refine z_il iX11_next_309 rfl ?_
              refine z_co iX11_next_310 ?_
              refine z_icmp_eq iX11_next_312 (fun h7 => ?_) (fun h7 => ?_)
              · have hs : zRow A t p = 40 ∨ zRow A t p = 41 ∨ zRow A t p = 59 ∨ zRow A t p = 43 ∨ zRow A t p = 45 ∨ zRow A t p = 42 ∨ zRow A t p = 60 ∨ zRow A t p = 61 := by simp only [h7, true_or, or_true]
                refine z_al iX11_next_339 rfl ?_
                refine z_co iX11_next_340 ?_
                refine z_pf2 iX11_next_341 (by decide) (Nat.le_of_ble_eq_true rfl) trivial ?_
                refine z_al iX11_next_344 rfl ?_
                refine z_il iX11_next_345 rfl ?_
                refine z_i2l iX11_next_346 ?_
                refine z_pf2 iX11_next_347 (by decide) (Nat.le_of_ble_eq_true rfl) trivial ?_
                refine z_al iX11_next_350 rfl ?_
                refine z_dup iX11_next_351 ?_
                refine z_gf iX11_next_352 zupd_s rfl ?_
                refine z_co iX11_next_355 ?_
                refine z_iadd iX11_next_356 ?_
                refine z_pf2 iX11_next_357 (by decide) (Nat.le_of_ble_eq_true rfl) trivial ?_
                refine z_vret iX11_next_360 rfl ?_
                have hsg : tkSign (zRow A t p) = -(zRow A t p) := if_pos hs
                have hend : tkEnd (zRow A t) n p = p + 1 := tkScan_eq (Nat.le_refl _) (by omega) (fun j q1 q2 => absurd q1 (by omega)) (fun _ q => absurd (of_decide_eq_true q) (fun z => z.elim (fun w => hl2 w.1) (fun w => hd2 w.1)))
                refine ⟨rfl, zup (zup (zup (zup J 4 (J 5)) 3 4) 3 3) 5 (J 5 + 1), _, rfl, ⟨?_, ?_, fun _ => ?_⟩, (((hN.s (Or.inr (Or.inl rfl))).s (Or.inl rfl)).s (Or.inl rfl)).s (Or.inr (Or.inr rfl))⟩
                · rw [← hpe, if_pos hp]
                  unfold tkCode
                  rw [if_neg hl2, if_neg hd2, hsg]
                  refine Or.inr (Or.inr (Or.inr (Or.inl ⟨rfl, ?_, ?_⟩)))
                  · rw [show - -(zRow A t p) = zRow A t p by grind]
                  · rcases hs with q | q | q | q | q | q | q | q <;> rw [q] <;> decide
                · rw [← hpe]
                  exact j5
                · rw [← hpe, if_pos hp, hend]
                  show J 5 + 1 = _
                  rw [j5, nI_1]
              · refine z_il iX11_next_315 rfl ?_
                refine z_co iX11_next_316 ?_
                refine z_icmp_eq iX11_next_318 (fun h8 => ?_) (fun h8 => ?_)
                · have hs : zRow A t p = 40 ∨ zRow A t p = 41 ∨ zRow A t p = 59 ∨ zRow A t p = 43 ∨ zRow A t p = 45 ∨ zRow A t p = 42 ∨ zRow A t p = 60 ∨ zRow A t p = 61 := by simp only [h8, true_or, or_true]
                  refine z_al iX11_next_339 rfl ?_
                  refine z_co iX11_next_340 ?_
                  refine z_pf2 iX11_next_341 (by decide) (Nat.le_of_ble_eq_true rfl) trivial ?_
                  refine z_al iX11_next_344 rfl ?_
                  refine z_il iX11_next_345 rfl ?_
                  refine z_i2l iX11_next_346 ?_
                  refine z_pf2 iX11_next_347 (by decide) (Nat.le_of_ble_eq_true rfl) trivial ?_
                  refine z_al iX11_next_350 rfl ?_
                  refine z_dup iX11_next_351 ?_
                  refine z_gf iX11_next_352 zupd_s rfl ?_
                  refine z_co iX11_next_355 ?_
                  refine z_iadd iX11_next_356 ?_
                  refine z_pf2 iX11_next_357 (by decide) (Nat.le_of_ble_eq_true rfl) trivial ?_
                  refine z_vret iX11_next_360 rfl ?_
                  have hsg : tkSign (zRow A t p) = -(zRow A t p) := if_pos hs
                  have hend : tkEnd (zRow A t) n p = p + 1 := tkScan_eq (Nat.le_refl _) (by omega) (fun j q1 q2 => absurd q1 (by omega)) (fun _ q => absurd (of_decide_eq_true q) (fun z => z.elim (fun w => hl2 w.1) (fun w => hd2 w.1)))
                  refine ⟨rfl, zup (zup (zup (zup J 4 (J 5)) 3 4) 3 3) 5 (J 5 + 1), _, rfl, ⟨?_, ?_, fun _ => ?_⟩, (((hN.s (Or.inr (Or.inl rfl))).s (Or.inl rfl)).s (Or.inl rfl)).s (Or.inr (Or.inr rfl))⟩
                  · rw [← hpe, if_pos hp]
                    unfold tkCode
                    rw [if_neg hl2, if_neg hd2, hsg]
                    refine Or.inr (Or.inr (Or.inr (Or.inl ⟨rfl, ?_, ?_⟩)))
                    · rw [show - -(zRow A t p) = zRow A t p by grind]
                    · rcases hs with q | q | q | q | q | q | q | q <;> rw [q] <;> decide
                  · rw [← hpe]
                    exact j5
                  · rw [← hpe, if_pos hp, hend]
                    show J 5 + 1 = _
                    rw [j5, nI_1]
                · refine z_il iX11_next_321 rfl ?_
                  refine z_co iX11_next_322 ?_
                  refine z_icmp_eq iX11_next_324 (fun h9 => ?_) (fun h9 => ?_)
                  · have hs : zRow A t p = 40 ∨ zRow A t p = 41 ∨ zRow A t p = 59 ∨ zRow A t p = 43 ∨ zRow A t p = 45 ∨ zRow A t p = 42 ∨ zRow A t p = 60 ∨ zRow A t p = 61 := by simp only [h9, true_or, or_true]
                    refine z_al iX11_next_339 rfl ?_
                    refine z_co iX11_next_340 ?_
                    refine z_pf2 iX11_next_341 (by decide) (Nat.le_of_ble_eq_true rfl) trivial ?_
                    refine z_al iX11_next_344 rfl ?_
                    refine z_il iX11_next_345 rfl ?_
                    refine z_i2l iX11_next_346 ?_
                    refine z_pf2 iX11_next_347 (by decide) (Nat.le_of_ble_eq_true rfl) trivial ?_
                    refine z_al iX11_next_350 rfl ?_
                    refine z_dup iX11_next_351 ?_
                    refine z_gf iX11_next_352 zupd_s rfl ?_
                    refine z_co iX11_next_355 ?_
                    refine z_iadd iX11_next_356 ?_
                    refine z_pf2 iX11_next_357 (by decide) (Nat.le_of_ble_eq_true rfl) trivial ?_
                    refine z_vret iX11_next_360 rfl ?_
                    have hsg : tkSign (zRow A t p) = -(zRow A t p) := if_pos hs
                    have hend : tkEnd (zRow A t) n p = p + 1 := tkScan_eq (Nat.le_refl _) (by omega) (fun j q1 q2 => absurd q1 (by omega)) (fun _ q => absurd (of_decide_eq_true q) (fun z => z.elim (fun w => hl2 w.1) (fun w => hd2 w.1)))
                    refine ⟨rfl, zup (zup (zup (zup J 4 (J 5)) 3 4) 3 3) 5 (J 5 + 1), _, rfl, ⟨?_, ?_, fun _ => ?_⟩, (((hN.s (Or.inr (Or.inl rfl))).s (Or.inl rfl)).s (Or.inl rfl)).s (Or.inr (Or.inr rfl))⟩
                    · rw [← hpe, if_pos hp]
                      unfold tkCode
                      rw [if_neg hl2, if_neg hd2, hsg]
                      refine Or.inr (Or.inr (Or.inr (Or.inl ⟨rfl, ?_, ?_⟩)))
                      · rw [show - -(zRow A t p) = zRow A t p by grind]
                      · rcases hs with q | q | q | q | q | q | q | q <;> rw [q] <;> decide
                    · rw [← hpe]
                      exact j5
                    · rw [← hpe, if_pos hp, hend]
                      show J 5 + 1 = _
                      rw [j5, nI_1]
                  · refine z_il iX11_next_327 rfl ?_
                    refine z_co iX11_next_328 ?_
                    refine z_icmp_eq iX11_next_330 (fun h10 => ?_) (fun h10 => ?_)
                    · have hs : zRow A t p = 40 ∨ zRow A t p = 41 ∨ zRow A t p = 59 ∨ zRow A t p = 43 ∨ zRow A t p = 45 ∨ zRow A t p = 42 ∨ zRow A t p = 60 ∨ zRow A t p = 61 := by simp only [h10, true_or, or_true]
                      refine z_al iX11_next_339 rfl ?_
                      refine z_co iX11_next_340 ?_
                      refine z_pf2 iX11_next_341 (by decide) (Nat.le_of_ble_eq_true rfl) trivial ?_
                      refine z_al iX11_next_344 rfl ?_
                      refine z_il iX11_next_345 rfl ?_
                      refine z_i2l iX11_next_346 ?_
                      refine z_pf2 iX11_next_347 (by decide) (Nat.le_of_ble_eq_true rfl) trivial ?_
                      refine z_al iX11_next_350 rfl ?_
                      refine z_dup iX11_next_351 ?_
                      refine z_gf iX11_next_352 zupd_s rfl ?_
                      refine z_co iX11_next_355 ?_
                      refine z_iadd iX11_next_356 ?_
                      refine z_pf2 iX11_next_357 (by decide) (Nat.le_of_ble_eq_true rfl) trivial ?_
                      refine z_vret iX11_next_360 rfl ?_
                      have hsg : tkSign (zRow A t p) = -(zRow A t p) := if_pos hs
                      have hend : tkEnd (zRow A t) n p = p + 1 := tkScan_eq (Nat.le_refl _) (by omega) (fun j q1 q2 => absurd q1 (by omega)) (fun _ q => absurd (of_decide_eq_true q) (fun z => z.elim (fun w => hl2 w.1) (fun w => hd2 w.1)))
                      refine ⟨rfl, zup (zup (zup (zup J 4 (J 5)) 3 4) 3 3) 5 (J 5 + 1), _, rfl, ⟨?_, ?_, fun _ => ?_⟩, (((hN.s (Or.inr (Or.inl rfl))).s (Or.inl rfl)).s (Or.inl rfl)).s (Or.inr (Or.inr rfl))⟩
                      · rw [← hpe, if_pos hp]
                        unfold tkCode
                        rw [if_neg hl2, if_neg hd2, hsg]
                        refine Or.inr (Or.inr (Or.inr (Or.inl ⟨rfl, ?_, ?_⟩)))
                        · rw [show - -(zRow A t p) = zRow A t p by grind]
                        · rcases hs with q | q | q | q | q | q | q | q <;> rw [q] <;> decide
                      · rw [← hpe]
                        exact j5
                      · rw [← hpe, if_pos hp, hend]
                        show J 5 + 1 = _
                        rw [j5, nI_1]
                    · refine z_il iX11_next_333 rfl ?_
                      refine z_co iX11_next_334 ?_
                      refine z_icmp_ne iX11_next_336 (fun h11 => ?_) (fun h11 => ?_)
                      · refine z_vret iX11_next_360 rfl ?_
                        have hsg : tkSign (zRow A t p) = -21 := if_neg (fun q => by rcases q with q | q | q | q | q | q | q | q <;> exact absurd q (by assumption))
                        refine ⟨rfl, (zup (zup J 4 (J 5)) 3 4), K, rfl, ⟨?_, ?_, fun q => ?_⟩, (hN.s (Or.inr (Or.inl rfl))).s (Or.inl rfl)⟩
                        · rw [← hpe, if_pos hp]
                          unfold tkCode
                          rw [if_neg hl2, if_neg hd2, hsg]
                          exact Or.inr (Or.inr (Or.inr (Or.inr ⟨rfl, rfl⟩)))
                        · rw [← hpe]
                          exact j5
                        · refine absurd ?_ q
                          rw [← hpe, if_pos hp]
                          unfold tkCode
                          rw [if_neg hl2, if_neg hd2, hsg]
                      · have hs : zRow A t p = 40 ∨ zRow A t p = 41 ∨ zRow A t p = 59 ∨ zRow A t p = 43 ∨ zRow A t p = 45 ∨ zRow A t p = 42 ∨ zRow A t p = 60 ∨ zRow A t p = 61 := by simp only [h11, true_or, or_true]
                        refine z_al iX11_next_339 rfl ?_
                        refine z_co iX11_next_340 ?_
                        refine z_pf2 iX11_next_341 (by decide) (Nat.le_of_ble_eq_true rfl) trivial ?_
                        refine z_al iX11_next_344 rfl ?_
                        refine z_il iX11_next_345 rfl ?_
                        refine z_i2l iX11_next_346 ?_
                        refine z_pf2 iX11_next_347 (by decide) (Nat.le_of_ble_eq_true rfl) trivial ?_
                        refine z_al iX11_next_350 rfl ?_
                        refine z_dup iX11_next_351 ?_
                        refine z_gf iX11_next_352 zupd_s rfl ?_
                        refine z_co iX11_next_355 ?_
                        refine z_iadd iX11_next_356 ?_
                        refine z_pf2 iX11_next_357 (by decide) (Nat.le_of_ble_eq_true rfl) trivial ?_
                        refine z_vret iX11_next_360 rfl ?_
                        have hsg : tkSign (zRow A t p) = -(zRow A t p) := if_pos hs
                        have hend : tkEnd (zRow A t) n p = p + 1 := tkScan_eq (Nat.le_refl _) (by omega) (fun j q1 q2 => absurd q1 (by omega)) (fun _ q => absurd (of_decide_eq_true q) (fun z => z.elim (fun w => hl2 w.1) (fun w => hd2 w.1)))
                        refine ⟨rfl, zup (zup (zup (zup J 4 (J 5)) 3 4) 3 3) 5 (J 5 + 1), _, rfl, ⟨?_, ?_, fun _ => ?_⟩, (((hN.s (Or.inr (Or.inl rfl))).s (Or.inl rfl)).s (Or.inl rfl)).s (Or.inr (Or.inr rfl))⟩
                        · rw [← hpe, if_pos hp]
                          unfold tkCode
                          rw [if_neg hl2, if_neg hd2, hsg]
                          refine Or.inr (Or.inr (Or.inr (Or.inl ⟨rfl, ?_, ?_⟩)))
                          · rw [show - -(zRow A t p) = zRow A t p by grind]
                          · rcases hs with q | q | q | q | q | q | q | q <;> rw [q] <;> decide
                        · rw [← hpe]
                          exact j5
                        · rw [← hpe, if_pos hp, hend]
                          show J 5 + 1 = _
                          rw [j5, nI_1]
      · have hD := h3
        refine z_al iX11_next_190 rfl ?_
        refine z_co iX11_next_191 ?_
        refine z_pf2 iX11_next_192 (by decide) (Nat.le_of_ble_eq_true rfl) trivial ?_
        refine z_al iX11_next_195 rfl ?_
        refine z_cl iX11_next_196 ?_
        refine z_pf2 iX11_next_197 (by decide) (Nat.le_of_ble_eq_true rfl) trivial ?_
        refine z_co iX11_next_200 ?_
        refine z_is iX11_next_201 ?_
        have hd0 : ∀ i, i < tkEnd (zRow A t) n p - p → tkD (zRow A t (p + i)) := fun i hi => by
          by_cases z : i = 0
          · rw [z]; exact hD
          · exact (tkRD hD).mp (tkEnd_in (n := n) (p := p) (j := p + i) (by omega) (by omega))
        have hge := tkEnd_gt (u := zRow A t) (n := n) (p := p)
        refine z_mm (J' := zup (zup (zup J 4 (J 5)) 3 4) 3 2) rfl ?_
        refine z_loc [some (zr (40, 0)), none, some (zi (nI 0))] ⟨rfl, rfl, trivial⟩ ?_
        exact n_dig hf h19 ht hn16 hu hp hpe hD hd0 (tkEnd (zRow A t) n p - p) 0 _ _ (by omega) j1 j2 j5 j5 (((hN.s (Or.inr (Or.inl rfl))).s (Or.inl rfl)).s (Or.inl rfl)) rfl (fun _ => rfl)
    · have hL := h2
      refine z_al iX11_next_92 rfl ?_
      refine z_co iX11_next_93 ?_
      refine z_pf2 iX11_next_94 (by decide) (Nat.le_of_ble_eq_true rfl) trivial ?_
      refine z_al iX11_next_97 rfl ?_
      refine z_cl iX11_next_98 ?_
      refine z_pf2 iX11_next_99 (by decide) (Nat.le_of_ble_eq_true rfl) trivial ?_
      refine z_co iX11_next_102 ?_
      refine z_is iX11_next_103 ?_
      have hd0 : ∀ i, i < tkEnd (zRow A t) n p - p → tkL (zRow A t (p + i)) := fun i hi => by
        by_cases z : i = 0
        · rw [z]; exact hL
        · exact (tkRL hL).mp (tkEnd_in (n := n) (p := p) (j := p + i) (by omega) (by omega))
      have hge := tkEnd_gt (u := zRow A t) (n := n) (p := p)
      refine z_mm (J' := zup (zup (zup J 4 (J 5)) 3 4) 3 1) rfl ?_
      refine z_loc [some (zr (40, 0)), none, some (zi (nI 0))] ⟨rfl, rfl, trivial⟩ ?_
      exact n_let hf h19 ht hn16 hu hp hpe hL hd0 (tkEnd (zRow A t) n p - p) 0 _ _ (by omega) j1 j2 j5 j5 (((hN.s (Or.inr (Or.inl rfl))).s (Or.inl rfl)).s (Or.inl rfl)) rfl rfl
  · refine z_al iX11_next_65 rfl ?_
    refine z_co iX11_next_66 ?_
    refine z_pf2 iX11_next_67 (by decide) (Nat.le_of_ble_eq_true rfl) trivial ?_
    refine z_al iX11_next_70 rfl ?_
    refine z_al iX11_next_71 rfl ?_
    refine z_gf iX11_next_72 zupd_s rfl ?_
    refine z_pf2 iX11_next_75 (by decide) (Nat.le_of_ble_eq_true rfl) trivial ?_
    refine z_goto iX11_next_78 ?_
    refine z_vret iX11_next_360 rfl ?_
    have hpn : ¬ p < n := fun q => by
      rw [if_pos q] at h1
      have := (hu p q).1
      simp only [zi_le, Int32.reduceToInt] at h1
      omega
    have hpe2 : p = n := by omega
    refine ⟨rfl, zup (zup (zup (zup J 4 (J 5)) 3 4) 3 0) 4 (J 2), K, rfl, ⟨?_, ?_, fun _ => ?_⟩, (((hN.s (Or.inr (Or.inl rfl))).s (Or.inl rfl)).s (Or.inl rfl)).s (Or.inr (Or.inl rfl))⟩
    · rw [← hpe, if_neg hpn]
      exact Or.inl ⟨rfl, rfl⟩
    · rw [← hpe, hpe2]
      exact j2
    · rw [← hpe, if_neg hpn]
      exact (show J 5 = nI p from j5).trans (congrArg nI hpe2)
set_option maxRecDepth 20000 in
set_option maxHeartbeats 4000000 in
theorem c11_next {fr t n : Nat} {M0 : zM} {I : zSI} {A : zSA} (hf : 2 ≤ fr) (h19 : M0 (41, 19) = some (.inl (0, 960, .inl (A 19)))) (ht : t < 6) (hn16 : n ≤ 160) (hu : ∀ j, j < n → 0 ≤ (zRow A t j).toInt ∧ (zRow A t j).toInt ≤ 255) {h : Nat} {J : zSI} {K : Int64} (hh : h ≤ n) (j1 : J 1 = nI (160 * t)) (j2 : J 2 = nI n) (j5 : J 5 = nI h) : zCv zX11_next fr 0 0 [zr (40, 0)] (zupd M0 (40, 0) (.inr (11, mObj I J K))) (fun M' => ∃ J' K', M' = zupd M0 (40, 0) (.inr (11, mObj I J' K')) ∧ mkAt (zRow A t) n h J' K' ∧ mkN J J') := by
  refine z_enter (L := [some (zr (40, 0))]) rfl (by decide +kernel) (Nat.le_of_ble_eq_true rfl) ?_
  refine n_blank hf h19 ht hn16 hu (n - h) h J (by omega) j1 j2 j5 (fun J' a b c d => ?_)
  exact n_main hf h19 ht hn16 hu (tkSkip_le hh) rfl a b c (fun i _ _ z => d i z)
