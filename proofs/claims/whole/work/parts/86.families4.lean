theorem fmP_lt {nx : Nat → Nat} {t0 w R d0 f t d : Nat} (ht : t0 < 1024) (hw : w < 1024) (h : fmP nx t0 w R d0 f t d) : t < 1024 := by
  obtain ⟨E, hE, rfl, -⟩ := h
  exact mOr_lt (mOr_lt (mAnd_lt ht) (Nat.lt_of_le_of_lt (Nat.mod_le _ _) (mD_lt hw))) (evP_f (mD_lt ht) hE).1
theorem fmP_add {nx : Nat → Nat} {t0 w R d0 f t d : Nat} (ht : t0 < 1024) (h : fmP nx t0 w R d0 f t d) (hf : (mD w t0).testBit f = true) (hf10 : f < 10) (hp : ¬ zPop t = R) : fmP nx t0 w R d0 (f + 1) (t ||| 2 ^ f) (d + 1) := by
  have q := fmP_pop ht h
  obtain ⟨E, hE, e1, e2⟩ := h
  have p1 := zPop_mod_s hf hf10
  have p2 : ¬ R ≤ zPop t0 + zPop (mD w t0 % 2 ^ f) := fun z => hp (q.2 z)
  refine ⟨E, ?_, ?_, by rw [p1, e2]; omega⟩
  · rw [p1, show zPop t0 + (zPop (mD w t0 % 2 ^ f) + 1) - R = zPop t0 + zPop (mD w t0 % 2 ^ f) - R by omega]
    exact hE
  · rw [e1, mMod_s hf]
    refine mEq (fun j => ?_)
    simp only [Nat.testBit_or]
    cases (t0 &&& w).testBit j <;> cases (mD w t0 % 2 ^ f).testBit j <;> cases E.testBit j <;> cases (2 ^ f).testBit j <;> rfl
/-- what is there and not wanted is what stayed -/
theorem fmP_E {nx : Nat → Nat} {t0 w R f E : Nat} (ht : t0 < 1024) (hE : evP nx (mD t0 w) (zPop t0 + zPop (mD w t0 % 2 ^ f) - R) E) : mD (((t0 &&& w) ||| (mD w t0 % 2 ^ f)) ||| E) w = E := mEq (fun j => by
  have z := (evP_f (mD_lt ht) hE).2.1 j
  rw [mD_i] at z
  simp only [mD_bit, Nat.testBit_or, Nat.testBit_and, mMod_bit]
  cases hw : w.testBit j
  · simp
  · cases h : E.testBit j
    · simp
    · exact absurd (z h).2 (by rw [hw]; decide))
theorem fmP_n0 {nx : Nat → Nat} {t0 w R d0 f t d : Nat} (ht : t0 < 1024) (hwR : zPop w ≤ R) (h : fmP nx t0 w R d0 f t d) (hf : (mD w t0).testBit f = true) (hf10 : f < 10) (hp : zPop t = R) : ¬ mD t w = 0 := by
  intro z
  obtain ⟨E, hE, rfl, e2⟩ := h
  rw [fmP_E ht hE] at z
  rw [z, Nat.or_zero] at hp
  have hs : zPop (((t0 &&& w) ||| (mD w t0 % 2 ^ f)) ||| 2 ^ f) ≤ zPop w := zPop_sub (fun j hj => by
    rw [Nat.testBit_or, Nat.testBit_or, Nat.testBit_and, mMod_bit, mPow_bit, Bool.or_eq_true, Bool.or_eq_true, Bool.and_eq_true, Bool.and_eq_true] at hj
    rcases hj with (a | a) | a
    · exact a.2
    · exact (mD_i.mp a.2).1
    · have := of_decide_eq_true a
      subst this
      exact (mD_i.mp hf).1)
  have he : zPop (((t0 &&& w) ||| (mD w t0 % 2 ^ f)) ||| 2 ^ f) = zPop ((t0 &&& w) ||| (mD w t0 % 2 ^ f)) + zPop (2 ^ f) := zPop_or (fun j => Nat.testBit_or _ _ _) (fun j hj => by
    rw [mPow_bit]
    refine decide_eq_false (fun q => ?_)
    subst q
    rw [Nat.testBit_or, Nat.testBit_and, mMod_bit, (mD_i.mp hf).2, decide_eq_false (Nat.lt_irrefl f)] at hj
    simp at hj)
  rw [zPop_pow f hf10] at he
  omega
theorem fmP_go {nx : Nat → Nat} {t0 w R d0 f t d g : Nat} (ht : t0 < 1024) (hwR : zPop w ≤ R) (h0R : zPop t0 ≤ R) (h : fmP nx t0 w R d0 f t d) (hf : (mD w t0).testBit f = true) (hf10 : f < 10) (hp : zPop t = R) (hg : tpP (mD t w) nx g) : fmP nx t0 w R d0 (f + 1) (mD t (2 ^ g) ||| 2 ^ f) (d + 1) := by
  have q := fmP_pop ht h
  obtain ⟨E, hE, rfl, e2⟩ := h
  have p1 := zPop_mod_s hf hf10
  have p2 : R ≤ zPop t0 + zPop (mD w t0 % 2 ^ f) := Decidable.byContradiction (fun z => by
    have := q.1 (by omega)
    omega)
  rw [fmP_E ht hE] at hg
  refine ⟨mD E (2 ^ g), ?_, ?_, by rw [p1, e2]; omega⟩
  · rw [p1, show zPop t0 + (zPop (mD w t0 % 2 ^ f) + 1) - R = (zPop t0 + zPop (mD w t0 % 2 ^ f) - R) + 1 by omega]
    exact ⟨E, g, hE, hg, rfl⟩
  · have hgw := (mD_i.mp ((evP_f (mD_lt ht) hE).2.1 g hg.1)).2
    rw [mMod_s hf]
    refine mEq (fun j => ?_)
    by_cases z : g = j
    · subst z
      simp only [Nat.testBit_or, mD_bit, Nat.testBit_and, mMod_bit, hgw, mPow_bit]
      simp
    · simp only [Nat.testBit_or, mD_bit, mPow_bit, decide_eq_false z]
      cases (t0 &&& w).testBit j <;> cases (mD w t0 % 2 ^ f).testBit j <;> cases E.testBit j <;> simp
set_option maxRecDepth 20000 in
set_option maxHeartbeats 4000000 in
theorem l11_fam {fr : Nat} {M : zM} {Q : Option zVal → zM → Prop} {I J : zSI} {A : zSA} {L : zSL} {K : Int64} (hR : RepM M I A L J K) {N : Nat} {W P : Nat → Nat} (hJ : jmR I A N W P) {R t0 d0 w s : Nat} (hf : 2 ≤ fr) (hs : s < N) (ht : t0 < 1024) (hw : w < 1024) (hwR : zPop w ≤ R) (h0R : zPop t0 ≤ R) (hR9 : R ≤ 9) (KK : ∀ t d, fmP (fun f => nxF (fun i => W (P i)) f (N - (s + 1)) (s + 1)) t0 w R d0 10 t d → zV zX11_changesOf fr 0 0 164 (zL [some (zr (40, 0)), some (zi (nI R)), some (zi (nI t)), some (zi (nI d)), some (zi (nI s)), some (zi (nI w)), some (zi (nI 10))]) [] M Q)  : ∀ (n i : Nat) (t d : Nat), i + n = 10 → fmP (fun f => nxF (fun i => W (P i)) f (N - (s + 1)) (s + 1)) t0 w R d0 i t d → zV zX11_changesOf fr 0 0 33 (zL [some (zr (40, 0)), some (zi (nI R)), some (zi (nI t)), some (zi (nI d)), some (zi (nI s)), some (zi (nI w)), some (zi (nI i))]) [] M Q := by
  intro n
  induction n with
  | zero =>
    intro i t d hn hfm
    have ei := nI_toInt (n := i) (by omega)
    have hlt := fmP_lt ht hw hfm
    have hbt := fun h => fmP_bit (f := i) ht hfm h
    refine z_il iX11_changesOf_33 rfl ?_
    refine z_co iX11_changesOf_35 ?_
    refine z_icmp_ge iX11_changesOf_37 (fun h1 => ?_) (fun h1 => ?_)
    · have hi10 : i = 10 := by omega
      subst hi10
      refine z_loc [some (zr (40, 0)), some (zi (nI R)), some (zi (nI t)), some (zi (nI d)), some (zi (nI s)), some (zi (nI w)), some (zi (nI 10))] ⟨rfl, rfl, rfl, rfl, rfl, rfl, rfl, trivial⟩ (KK t d hfm)
    · exfalso
      simp only [zi_le, Int32.reduceToInt, ei] at h1
      omega
  | succ n ih =>
    intro i t d hn hfm
    have ei := nI_toInt (n := i) (by omega)
    have hlt := fmP_lt ht hw hfm
    have hbt := fun h => fmP_bit (f := i) ht hfm h
    refine z_il iX11_changesOf_33 rfl ?_
    refine z_co iX11_changesOf_35 ?_
    refine z_icmp_ge iX11_changesOf_37 (fun h1 => ?_) (fun h1 => ?_)
    · exfalso
      simp only [zi_le, Int32.reduceToInt, ei] at h1
      omega
    · refine z_il iX11_changesOf_40 rfl ?_
      refine z_il iX11_changesOf_42 rfl ?_
      refine z_ishr iX11_changesOf_44 ?_
      refine z_co iX11_changesOf_45 ?_
      refine z_iand iX11_changesOf_46 ?_
      refine z_if_eq iX11_changesOf_47 (fun h2 => ?_) (fun h2 => ?_)
      · refine z_in iX11_changesOf_158 rfl ?_
        refine z_goto iX11_changesOf_161 ?_
        refine z_loc [some (zr (40, 0)), some (zi (nI R)), some (zi (nI t)), some (zi (nI d)), some (zi (nI s)), some (zi (nI w)), some (zi (nI (i + 1)))] ⟨rfl, rfl, rfl, rfl, rfl, rfl, ?_, trivial⟩ (ih (i + 1) t d (by omega) (fmP_no hfm (fun q => (mk_set hw (by omega)).mp h2 (mD_i.mp q).1)))
        · show some (zi (nI i + 1)) = _
          rw [nI_1]
      · have hwb : w.testBit i = true := Decidable.of_not_not (fun q => h2 ((mk_set hw (by omega)).mpr q))
        refine z_il iX11_changesOf_50 rfl ?_
        refine z_il iX11_changesOf_51 rfl ?_
        refine z_ishr iX11_changesOf_53 ?_
        refine z_co iX11_changesOf_54 ?_
        refine z_iand iX11_changesOf_55 ?_
        refine z_co iX11_changesOf_56 ?_
        refine z_icmp_ne iX11_changesOf_57 (fun h3 => ?_) (fun h3 => ?_)
        · have hbit : (mD w t0).testBit i = true := mD_i.mpr ⟨hwb, by rw [← hbt hwb]; exact Bool.eq_false_iff.mpr (fun q => h3 ((mk_one hlt (by omega)).mpr q))⟩
          refine z_il iX11_changesOf_63 rfl ?_
          refine z_cs1i (fr' := fr - 1) iX11_changesOf_64 zmX11_bits (c11_bits hlt) (by omega) (Nat.le_of_ble_eq_true rfl) (fun x M1 hq => ?_)
          obtain ⟨rfl, rfl⟩ := hq
          have e9 := nI_toInt (n := zPop t) (by have := (zPop_f _ hlt).1; omega)
          have eR := nI_toInt (n := R) (by omega)
          refine z_il iX11_changesOf_67 rfl ?_
          refine z_icmp_ne iX11_changesOf_68 (fun h4 => ?_) (fun h4 => ?_)
          · have hpop : ¬ zPop t = R := fun q => h4 (by rw [q])
            refine z_il iX11_changesOf_148 rfl ?_
            refine z_co iX11_changesOf_149 ?_
            refine z_il iX11_changesOf_150 rfl ?_
            refine z_ishl iX11_changesOf_152 ?_
            refine z_ior iX11_changesOf_153 ?_
            refine z_is iX11_changesOf_154 ?_
            refine z_in iX11_changesOf_155 rfl ?_
            refine z_in iX11_changesOf_158 rfl ?_
            refine z_goto iX11_changesOf_161 ?_
            refine z_loc [some (zr (40, 0)), some (zi (nI R)), some (zi (nI (t ||| 2 ^ i))), some (zi (nI (d + 1))), some (zi (nI s)), some (zi (nI w)), some (zi (nI (i + 1)))] ⟨rfl, rfl, ?_, ?_, rfl, rfl, ?_, trivial⟩ (ih (i + 1) _ _ (by omega) (fmP_add ht hfm hbit (by omega) hpop))
            · show some (zi (nI t ||| (1 : Int32) <<< (nI i &&& 31))) = _
              rw [mk_bit i (by omega), mk_or]
            · show some (zi (nI d + 1)) = _
              rw [nI_1]
            · show some (zi (nI i + 1)) = _
              rw [nI_1]
          · refine z_co iX11_changesOf_71 ?_
            refine z_is iX11_changesOf_72 ?_
            refine z_co iX11_changesOf_74 ?_
            refine z_is iX11_changesOf_75 ?_
            have hpop : zPop t = R := by
              rw [zi_eq, e9, eR] at h4
              omega
            have hn0 := fmP_n0 ht hwR hfm hbit (by omega) hpop
            obtain ⟨g, hg1, hg2⟩ := bst_P (nx := (fun f => nxF (fun i => W (P i)) f (N - (s + 1)) (s + 1))) (mD_lt hlt) hn0
            have hg10 : g < 10 := mBit_lt (mD_lt hlt) hg2.1
            refine z_loc [some (zr (40, 0)), some (zi (nI R)), some (zi (nI t)), some (zi (nI d)), some (zi (nI s)), some (zi (nI w)), some (zi (nI i)), some (zi (tI (bst (mD t w) (fun f => nxF (fun i => W (P i)) f (N - (s + 1)) (s + 1)) 0))), some (zi (nI 0))] ⟨rfl, rfl, rfl, rfl, rfl, rfl, rfl, rfl, rfl, trivial⟩ (l11_choice hR hJ hf hs hlt hw ?_ 10 0 (by omega))
            rw [hg1, show tI (some g) = nI g from rfl]
            refine z_il iX11_changesOf_139 rfl ?_
            refine z_co iX11_changesOf_140 ?_
            refine z_il iX11_changesOf_141 rfl ?_
            refine z_ishl iX11_changesOf_143 ?_
            refine z_co iX11_changesOf_144 ?_
            refine z_ixor iX11_changesOf_145 ?_
            refine z_iand iX11_changesOf_146 ?_
            refine z_is iX11_changesOf_147 ?_
            refine z_il iX11_changesOf_148 rfl ?_
            refine z_co iX11_changesOf_149 ?_
            refine z_il iX11_changesOf_150 rfl ?_
            refine z_ishl iX11_changesOf_152 ?_
            refine z_ior iX11_changesOf_153 ?_
            refine z_is iX11_changesOf_154 ?_
            refine z_in iX11_changesOf_155 rfl ?_
            refine z_in iX11_changesOf_158 rfl ?_
            refine z_goto iX11_changesOf_161 ?_
            refine z_loc [some (zr (40, 0)), some (zi (nI R)), some (zi (nI (mD t (2 ^ g) ||| 2 ^ i))), some (zi (nI (d + 1))), some (zi (nI s)), some (zi (nI w)), some (zi (nI (i + 1)))] ⟨rfl, rfl, ?_, ?_, rfl, rfl, ?_, trivial⟩ (ih (i + 1) _ _ (by omega) (fmP_go ht hwR h0R hfm hbit (by omega) hpop hg2))
            · show some (zi ((nI t &&& ((1 : Int32) <<< (nI g &&& 31) ^^^ -1)) ||| (1 : Int32) <<< (nI i &&& 31))) = _
              rw [mk_bit i (by omega), mk_bit g (by omega), mk_D, mk_or]
            · show some (zi (nI d + 1)) = _
              rw [nI_1]
            · show some (zi (nI i + 1)) = _
              rw [nI_1]
        · refine z_goto iX11_changesOf_60 ?_
          refine z_in iX11_changesOf_158 rfl ?_
          refine z_goto iX11_changesOf_161 ?_
          refine z_loc [some (zr (40, 0)), some (zi (nI R)), some (zi (nI t)), some (zi (nI d)), some (zi (nI s)), some (zi (nI w)), some (zi (nI (i + 1)))] ⟨rfl, rfl, rfl, rfl, rfl, rfl, ?_, trivial⟩ (ih (i + 1) t d (by omega) (fmP_no hfm (fun q => by have a := (mk_one hlt (by omega)).mp h3; rw [hbt hwb, (mD_i.mp q).2] at a; exact absurd a (by decide))))
          · show some (zi (nI i + 1)) = _
            rw [nI_1]
