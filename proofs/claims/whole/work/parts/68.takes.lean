/-- whether a tool may take the next cut -/
abbrev tkc (A : zSA) (m f : Int32) (k : Nat) : Prop := A 17 k = m ∧ A 15 k = f ∧ A 5 (zN (A 13 k)) = 0
def tkn (A : zSA) (L : zSL) (k : Nat) : Option Nat → Option Nat
  | none => some k
  | some b => if zMore A L (zN (A 13 k)) (zN (A 13 b)) then some k else some b
def tkr (A : zSA) (L : zSL) (m f : Int32) : Nat → Option Nat
  | 0 => none
  | k + 1 => if tkc A m f k then tkn A L k (tkr A L m f k) else tkr A L m f k
def tI : Option Nat → Int32
  | none => -1
  | some b => nI b
def tkE (A : zSA) : Option Nat → Option zAd
  | none => none
  | some b => some (28, zN (A 13 b))
theorem tkr_no {A : zSA} {L : zSL} {m f : Int32} {k : Nat} (h : ¬ tkc A m f k) : tkr A L m f (k + 1) = tkr A L m f k := if_neg h
theorem tkr_0 {A : zSA} {L : zSL} {m f : Int32} {k : Nat} (h : tkc A m f k) (hb : tkr A L m f k = none) : tkr A L m f (k + 1) = some k := by
  show (if tkc A m f k then tkn A L k (tkr A L m f k) else tkr A L m f k) = some k
  rw [if_pos h, hb]
  rfl
theorem tkr_1 {A : zSA} {L : zSL} {m f : Int32} {k b : Nat} (h : tkc A m f k) (hb : tkr A L m f k = some b) (hm : zMore A L (zN (A 13 k)) (zN (A 13 b))) : tkr A L m f (k + 1) = some k := by
  show (if tkc A m f k then tkn A L k (tkr A L m f k) else tkr A L m f k) = some k
  rw [if_pos h, hb]
  exact if_pos hm
theorem tkr_2 {A : zSA} {L : zSL} {m f : Int32} {k b : Nat} (h : tkc A m f k) (hb : tkr A L m f k = some b) (hm : ¬ zMore A L (zN (A 13 k)) (zN (A 13 b))) : tkr A L m f (k + 1) = some b := by
  show (if tkc A m f k then tkn A L k (tkr A L m f k) else tkr A L m f k) = some b
  rw [if_pos h, hb]
  exact if_neg hm
theorem tkr_lt {A : zSA} {L : zSL} {m f : Int32} : ∀ {k b : Nat}, tkr A L m f k = some b → b < k ∧ tkc A m f b
  | 0, _, h => by cases h
  | k + 1, b, h => by
    by_cases z : tkc A m f k
    · cases hb : tkr A L m f k with
      | none => rw [tkr_0 z hb] at h; cases h; exact ⟨by omega, z⟩
      | some b' =>
        by_cases z2 : zMore A L (zN (A 13 k)) (zN (A 13 b'))
        · rw [tkr_1 z hb z2] at h; cases h; exact ⟨by omega, z⟩
        · rw [tkr_2 z hb z2] at h; cases h
          have h9 := tkr_lt hb
          exact ⟨by omega, h9.2⟩
    · rw [tkr_no z] at h
      have h9 := tkr_lt h
      exact ⟨by omega, h9.2⟩
theorem tkE_s {A : zSA} {o : Option Nat} {x : zAd} (h : tkE A o = some x) : ∃ b, o = some b ∧ x = (28, zN (A 13 b)) := by
  cases o with
  | none => cases h
  | some b => exact ⟨b, rfl, (Option.some.inj h).symm⟩
theorem tkE_n {A : zSA} {o : Option Nat} (h : tkE A o = none) : o = none := by
  cases o with
  | none => rfl
  | some b => cases h
theorem tI_n {o : Option Nat} {N : Nat} (hl : ∀ b, o = some b → b < N) (hN : N ≤ 10) (h : tI o = -1) : o = none := by
  cases o with
  | none => rfl
  | some b =>
    have e1 := nI_toInt (n := b) (by have := hl b rfl; omega)
    have e2 : (nI b).toInt = (-1 : Int32).toInt := congrArg Int32.toInt h
    rw [e1] at e2
    simp only [Int32.reduceToInt] at e2
    omega
theorem tI_s {o : Option Nat} (h : ¬ tI o = -1) : ∃ b, o = some b := by
  cases o with
  | none => exact absurd rfl h
  | some b => exact ⟨b, rfl⟩
theorem zEt {I : zSI} {A : zSA} {L : zSL} (hV : Val I A L) {t : Nat} (h : (t : Int) < (I 1).toInt) : (A 13 t).toInt = (zN (A 13 t) : Int) ∧ zN (A 13 t) < 24 ∧ (zN (A 13 t) : Int) < (I 0).toInt := by
  have h1 := (hV.2.2.1 t h).1
  have h2 := hV.1.1.2
  have e0 : zN (A 13 t) = (A 13 t).toInt.toNat := rfl
  omega
theorem zEgV {I : zSI} {A : zSA} {L : zSL} (hV : Val I A L) {t : Nat} (h : (t : Int) < (I 1).toInt) : zEg A L (zN (A 13 t)) := by
  have h1 := hV.2.1 _ (zEt hV h).2.2
  exact ⟨h1.2.1, h1.2.2.2.1⟩
set_option maxRecDepth 20000 in
set_option maxHeartbeats 4000000 in
theorem l10_taker {TR : zTR} {JR : zJR} {fr : Nat} {M : zM} {I : zSI} {A : zSA} {L : zSL} {m fa : Int32} (hf : 2 ≤ fr) (hX : RepX TR JR M I A L) (hV : Val I A L)  : ∀ (n i : Nat), i + n = zN (I 1) → zV zX10_takerOf fr 0 0 8 (zL [some (zr (2, 0)), some (zi m), some (zi fa), some (zi (tI (tkr A L m fa i))), some (.inr (.inr (tkE A (tkr A L m fa i)))), some (zi (nI i))]) [] M (fun r M' => ∃ x, r = some (zi x) ∧ M' = M ∧ x = tI (tkr A L m fa (zN (I 1)))) := by
  intro n
  induction n with
  | zero =>
    intro i  hn 
    have h10 : (I 1).toInt = (zN (I 1) : Int) ∧ zN (I 1) ≤ 10 := by
      obtain ⟨z1, z2⟩ := hV.1.2.1
      have e0 : zN (I 1) = (I 1).toInt.toNat := rfl
      omega
    refine z_il iX10_takerOf_8 rfl ?_
    refine z_al iX10_takerOf_10 rfl ?_
    refine z_gf iX10_takerOf_11 hX.1.1 rfl ?_
    refine z_icmp_ge iX10_takerOf_14 (fun h1 => ?_) (fun h1 => ?_)
    · refine z_il iX10_takerOf_96 rfl ?_
      refine z_iret iX10_takerOf_97 rfl ?_
      exact ⟨_, rfl, rfl, by rw [show i = zN (I 1) by omega]⟩
    · exfalso
      have e1 := nI_toInt (n := i) (by omega)
      simp only [zi_le, h10.1, e1] at h1
      omega
  | succ n ih =>
    intro i  hn 
    have h10 : (I 1).toInt = (zN (I 1) : Int) ∧ zN (I 1) ≤ 10 := by
      obtain ⟨z1, z2⟩ := hV.1.2.1
      have e0 : zN (I 1) = (I 1).toInt.toNat := rfl
      omega
    refine z_il iX10_takerOf_8 rfl ?_
    refine z_al iX10_takerOf_10 rfl ?_
    refine z_gf iX10_takerOf_11 hX.1.1 rfl ?_
    refine z_icmp_ge iX10_takerOf_14 (fun h1 => ?_) (fun h1 => ?_)
    · exfalso
      have e1 := nI_toInt (n := i) (by omega)
      simp only [zi_le, h10.1, e1] at h1
      omega
    · refine z_al iX10_takerOf_17 rfl ?_
      refine z_il iX10_takerOf_18 rfl ?_
      refine z_cv1a (fr' := fr - 1) iX10_takerOf_20 zmX10_toolOf hX.1.1 (c10_toolOf (by omega) hX hV _) (by omega) (Nat.le_of_ble_eq_true rfl) (fun x M1 hq => ?_)
      obtain ⟨rfl, rfl⟩ := hq
      have hlt : (i : Int) < (I 1).toInt := by have e1 := nI_toInt (n := i) (by omega); simp only [zi_le, e1] at h1; omega
      rw [xo_nat hlt (by omega)]
      have htool := hX.2.2.1.1 i hlt
      have hedge := (hX.2.1.1 _ (zEt hV hlt).2.2).1
      refine z_as iX10_takerOf_23 ?_
      refine z_al iX10_takerOf_25 rfl ?_
      refine z_ifnull iX10_takerOf_27 (fun h2 => ?_) (fun x2 h2 => ?_)
      · cases h2
      · cases h2
        refine z_al iX10_takerOf_30 rfl ?_
        refine z_gf iX10_takerOf_32 htool rfl ?_
        refine z_il iX10_takerOf_35 rfl ?_
        refine z_icmp_ne iX10_takerOf_36 (fun h3 => ?_) (fun h3 => ?_)
        · refine z_in iX10_takerOf_90 rfl ?_
          refine z_goto iX10_takerOf_93 ?_
          have e : tkr A L m fa (i + 1) = (tkr A L m fa i) := tkr_no (fun q => h3 q.1)
          refine z_loc [some (zr (2, 0)), some (zi m), some (zi fa), some (zi (tI (tkr A L m fa (i + 1)))), some (.inr (.inr (tkE A (tkr A L m fa (i + 1))))), some (zi (nI (i + 1)))] ⟨rfl, rfl, rfl, ?_, ?_, ?_, trivial⟩ (ih (i + 1) (by omega))
          · rw [e]; rfl
          · rw [e]; rfl
          · show some (zi (nI i + 1)) = _
            rw [nI_1]
        · refine z_al iX10_takerOf_39 rfl ?_
          refine z_gf iX10_takerOf_41 htool rfl ?_
          refine z_il iX10_takerOf_44 rfl ?_
          refine z_icmp_ne iX10_takerOf_45 (fun h4 => ?_) (fun h4 => ?_)
          · refine z_in iX10_takerOf_90 rfl ?_
            refine z_goto iX10_takerOf_93 ?_
            have e : tkr A L m fa (i + 1) = (tkr A L m fa i) := tkr_no (fun q => h4 q.2.1)
            refine z_loc [some (zr (2, 0)), some (zi m), some (zi fa), some (zi (tI (tkr A L m fa (i + 1)))), some (.inr (.inr (tkE A (tkr A L m fa (i + 1))))), some (zi (nI (i + 1)))] ⟨rfl, rfl, rfl, ?_, ?_, ?_, trivial⟩ (ih (i + 1) (by omega))
            · rw [e]; rfl
            · rw [e]; rfl
            · show some (zi (nI i + 1)) = _
              rw [nI_1]
          · refine z_al iX10_takerOf_48 rfl ?_
            refine z_gf iX10_takerOf_50 htool rfl ?_
            refine z_gf iX10_takerOf_53 hedge rfl ?_
            refine z_if_eq iX10_takerOf_56 (fun h5 => ?_) (fun h5 => ?_)
            · refine z_alo iX10_takerOf_62 rfl ?_
              refine z_ifnull iX10_takerOf_64 (fun h6 => ?_) (fun x6 h6 => ?_)
              · refine z_il iX10_takerOf_80 rfl ?_
                refine z_is iX10_takerOf_82 ?_
                refine z_al iX10_takerOf_83 rfl ?_
                refine z_gf iX10_takerOf_85 htool rfl ?_
                refine z_as iX10_takerOf_88 ?_
                refine z_in iX10_takerOf_90 rfl ?_
                refine z_goto iX10_takerOf_93 ?_
                have e : tkr A L m fa (i + 1) = some i := tkr_0 ⟨h3, h4, h5⟩ (tkE_n h6)
                refine z_loc [some (zr (2, 0)), some (zi m), some (zi fa), some (zi (tI (tkr A L m fa (i + 1)))), some (.inr (.inr (tkE A (tkr A L m fa (i + 1))))), some (zi (nI (i + 1)))] ⟨rfl, rfl, rfl, ?_, ?_, ?_, trivial⟩ (ih (i + 1) (by omega))
                · rw [e]; rfl
                · rw [e]; rfl
                · show some (zi (nI i + 1)) = _
                  rw [nI_1]
              · rw [h6]
                obtain ⟨b, hb, rfl⟩ := tkE_s h6
                have hbl := (tkr_lt hb).1
                have hblt : (b : Int) < (I 1).toInt := by omega
                have hoth := (hX.2.1.1 _ (zEt hV hblt).2.2).1
                refine z_al iX10_takerOf_67 rfl ?_
                refine z_gf iX10_takerOf_69 htool rfl ?_
                refine z_al iX10_takerOf_72 rfl ?_
                refine z_cv1i (fr' := fr - 1) iX10_takerOf_74 zmX0_isMoreUsedThan hedge (c0_more (by omega) hedge hoth) (by omega) (Nat.le_of_ble_eq_true rfl) (fun x M1 hq => ?_)
                obtain ⟨rfl, rfl⟩ := hq
                refine z_ib_eq iX10_takerOf_77 (fun h7 => ?_) (fun h7 => ?_)
                · refine z_in iX10_takerOf_90 rfl ?_
                  refine z_goto iX10_takerOf_93 ?_
                  have e : tkr A L m fa (i + 1) = some b := tkr_2 ⟨h3, h4, h5⟩ hb (fun q => h7 ((zMoreX (zEgV hV hlt) (zEgV hV hblt)).mpr q))
                  refine z_loc [some (zr (2, 0)), some (zi m), some (zi fa), some (zi (tI (tkr A L m fa (i + 1)))), some (.inr (.inr (tkE A (tkr A L m fa (i + 1))))), some (zi (nI (i + 1)))] ⟨rfl, rfl, rfl, ?_, ?_, ?_, trivial⟩ (ih (i + 1) (by omega))
                  · rw [e]
                    show some (zi (tI (tkr A L m fa i))) = _
                    rw [hb]
                  · rw [e]; rfl
                  · show some (zi (nI i + 1)) = _
                    rw [nI_1]
                · refine z_il iX10_takerOf_80 rfl ?_
                  refine z_is iX10_takerOf_82 ?_
                  refine z_al iX10_takerOf_83 rfl ?_
                  refine z_gf iX10_takerOf_85 htool rfl ?_
                  refine z_as iX10_takerOf_88 ?_
                  refine z_in iX10_takerOf_90 rfl ?_
                  refine z_goto iX10_takerOf_93 ?_
                  have e : tkr A L m fa (i + 1) = some i := tkr_1 ⟨h3, h4, h5⟩ hb ((zMoreX (zEgV hV hlt) (zEgV hV hblt)).mp h7)
                  refine z_loc [some (zr (2, 0)), some (zi m), some (zi fa), some (zi (tI (tkr A L m fa (i + 1)))), some (.inr (.inr (tkE A (tkr A L m fa (i + 1))))), some (zi (nI (i + 1)))] ⟨rfl, rfl, rfl, ?_, ?_, ?_, trivial⟩ (ih (i + 1) (by omega))
                  · rw [e]; rfl
                  · rw [e]; rfl
                  · show some (zi (nI i + 1)) = _
                    rw [nI_1]
            · refine z_goto iX10_takerOf_59 ?_
              refine z_in iX10_takerOf_90 rfl ?_
              refine z_goto iX10_takerOf_93 ?_
              have e : tkr A L m fa (i + 1) = (tkr A L m fa i) := tkr_no (fun q => h5 q.2.2)
              refine z_loc [some (zr (2, 0)), some (zi m), some (zi fa), some (zi (tI (tkr A L m fa (i + 1)))), some (.inr (.inr (tkE A (tkr A L m fa (i + 1))))), some (zi (nI (i + 1)))] ⟨rfl, rfl, rfl, ?_, ?_, ?_, trivial⟩ (ih (i + 1) (by omega))
              · rw [e]; rfl
              · rw [e]; rfl
              · show some (zi (nI i + 1)) = _
                rw [nI_1]
set_option maxRecDepth 20000 in
set_option maxHeartbeats 4000000 in
theorem c10_takerOf {TR : zTR} {JR : zJR} {fr : Nat} {M : zM} {I : zSI} {A : zSA} {L : zSL} (hf : 2 ≤ fr) (hX : RepX TR JR M I A L) (hV : Val I A L) (m fa : Int32) : zCi zX10_takerOf fr 0 0 [zr (2, 0), zi m, zi fa] M (fun x M' => M' = M ∧ x = tI (tkr A L m fa (zN (I 1)))) := by
  refine z_enter (L := [some (zr (2, 0)), some (zi m), some (zi fa)]) rfl (by decide +kernel) (Nat.le_of_ble_eq_true rfl) ?_
  refine z_co iX10_takerOf_0 ?_
  refine z_is iX10_takerOf_1 ?_
  refine z_null iX10_takerOf_2 ?_
  refine z_as iX10_takerOf_3 ?_
  refine z_co iX10_takerOf_5 ?_
  refine z_is iX10_takerOf_6 ?_
  refine z_loc [some (zr (2, 0)), some (zi m), some (zi fa), some (zi (tI (tkr A L m fa 0))), some (.inr (.inr (tkE A (tkr A L m fa 0)))), some (zi (nI 0))] ⟨rfl, rfl, rfl, rfl, rfl, rfl, trivial⟩ ?_
  exact l10_taker hf hX hV (zN (I 1)) 0 (by have := hV.1.2.1.1; have e0 : zN (I 1) = (I 1).toInt.toNat := rfl; omega)
set_option maxRecDepth 20000 in
set_option maxHeartbeats 4000000 in
theorem l11_taker {fr : Nat} {Q : Option zVal → zM → Prop} {M : zM} {I J : zSI} {A : zSA} {L : zSL} {K : Int64} {m fa c s : Int32} (hf : 2 ≤ fr) (hR : RepM M I A L J K) (hV : Val I A L) (KK : zV zX11_cutBy fr 0 0 92 (zL [some (zr (40, 0)), some (zi m), some (zi fa), some (zi c), some (zi s), some (zi (tI (tkr A L m fa (zN (I 1))))), some (zi (nI (zN (I 1))))]) [] M Q)  : ∀ (n i : Nat), i + n = zN (I 1) → zV zX11_cutBy fr 0 0 6 (zL [some (zr (40, 0)), some (zi m), some (zi fa), some (zi c), some (zi s), some (zi (tI (tkr A L m fa i))), some (zi (nI i))]) [] M Q := by
  intro n
  induction n with
  | zero =>
    intro i  hn 
    have h10 : (I 1).toInt = (zN (I 1) : Int) ∧ zN (I 1) ≤ 10 := by
      obtain ⟨z1, z2⟩ := hV.1.2.1
      have e0 : zN (I 1) = (I 1).toInt.toNat := rfl
      omega
    refine z_il iX11_cutBy_6 rfl ?_
    refine z_al iX11_cutBy_8 rfl ?_
    refine z_gf iX11_cutBy_9 hR.1 rfl ?_
    refine z_icmp_ge iX11_cutBy_12 (fun h1 => ?_) (fun h1 => ?_)
    · exact (show i = zN (I 1) by omega) ▸ KK
    · exfalso
      have e1 := nI_toInt (n := i) (by omega)
      simp only [zi_le, h10.1, e1] at h1
      omega
  | succ n ih =>
    intro i  hn 
    have h10 : (I 1).toInt = (zN (I 1) : Int) ∧ zN (I 1) ≤ 10 := by
      obtain ⟨z1, z2⟩ := hV.1.2.1
      have e0 : zN (I 1) = (I 1).toInt.toNat := rfl
      omega
    refine z_il iX11_cutBy_6 rfl ?_
    refine z_al iX11_cutBy_8 rfl ?_
    refine z_gf iX11_cutBy_9 hR.1 rfl ?_
    refine z_icmp_ge iX11_cutBy_12 (fun h1 => ?_) (fun h1 => ?_)
    · exfalso
      have e1 := nI_toInt (n := i) (by omega)
      simp only [zi_le, h10.1, e1] at h1
      omega
    · have hlt : (i : Int) < (I 1).toInt := by have e1 := nI_toInt (n := i) (by omega); simp only [zi_le, e1] at h1; omega
      refine z_al iX11_cutBy_15 rfl ?_
      refine z_gf iX11_cutBy_16 hR.1 rfl ?_
      refine z_il iX11_cutBy_19 rfl ?_
      refine z_iald iX11_cutBy_21 (hR.2.1 17 (by decide)) (nI_toInt (n := i) (by omega)) (show i < 10 by omega) ?_
      refine z_il iX11_cutBy_22 rfl ?_
      refine z_icmp_ne iX11_cutBy_23 (fun h2 => ?_) (fun h2 => ?_)
      · refine z_in iX11_cutBy_86 rfl ?_
        refine z_goto iX11_cutBy_89 ?_
        have e : tkr A L m fa (i + 1) = (tkr A L m fa i) := tkr_no (fun q => h2 q.1)
        refine z_loc [some (zr (40, 0)), some (zi m), some (zi fa), some (zi c), some (zi s), some (zi (tI (tkr A L m fa (i + 1)))), some (zi (nI (i + 1)))] ⟨rfl, rfl, rfl, rfl, rfl, ?_, ?_, trivial⟩ (ih (i + 1) (by omega))
        · rw [e]; rfl
        · show some (zi (nI i + 1)) = _
          rw [nI_1]
      · refine z_al iX11_cutBy_26 rfl ?_
        refine z_gf iX11_cutBy_27 hR.1 rfl ?_
        refine z_il iX11_cutBy_30 rfl ?_
        refine z_iald iX11_cutBy_32 (hR.2.1 15 (by decide)) (nI_toInt (n := i) (by omega)) (show i < 10 by omega) ?_
        refine z_il iX11_cutBy_33 rfl ?_
        refine z_icmp_ne iX11_cutBy_34 (fun h3 => ?_) (fun h3 => ?_)
        · refine z_in iX11_cutBy_86 rfl ?_
          refine z_goto iX11_cutBy_89 ?_
          have e : tkr A L m fa (i + 1) = (tkr A L m fa i) := tkr_no (fun q => h3 q.2.1)
          refine z_loc [some (zr (40, 0)), some (zi m), some (zi fa), some (zi c), some (zi s), some (zi (tI (tkr A L m fa (i + 1)))), some (zi (nI (i + 1)))] ⟨rfl, rfl, rfl, rfl, rfl, ?_, ?_, trivial⟩ (ih (i + 1) (by omega))
          · rw [e]; rfl
          · show some (zi (nI i + 1)) = _
            rw [nI_1]
        · refine z_al iX11_cutBy_37 rfl ?_
          refine z_gf iX11_cutBy_38 hR.1 rfl ?_
          refine z_al iX11_cutBy_41 rfl ?_
          refine z_gf iX11_cutBy_42 hR.1 rfl ?_
          refine z_il iX11_cutBy_45 rfl ?_
          refine z_iald iX11_cutBy_47 (hR.2.1 13 (by decide)) (nI_toInt (n := i) (by omega)) (show i < 10 by omega) ?_
          refine z_iald iX11_cutBy_48 (hR.2.1 5 (by decide)) (zEt hV hlt).1 (zEt hV hlt).2.1 ?_
          refine z_if_eq iX11_cutBy_49 (fun h4 => ?_) (fun h4 => ?_)
          · refine z_il iX11_cutBy_55 rfl ?_
            refine z_co iX11_cutBy_57 ?_
            refine z_icmp_eq iX11_cutBy_58 (fun h5 => ?_) (fun h5 => ?_)
            · have hb0 := tI_n (fun b q => (tkr_lt q).1) (by omega) h5
              refine z_il iX11_cutBy_82 rfl ?_
              refine z_is iX11_cutBy_84 ?_
              refine z_in iX11_cutBy_86 rfl ?_
              refine z_goto iX11_cutBy_89 ?_
              have e : tkr A L m fa (i + 1) = some i := tkr_0 ⟨h2, h3, h4⟩ hb0
              refine z_loc [some (zr (40, 0)), some (zi m), some (zi fa), some (zi c), some (zi s), some (zi (tI (tkr A L m fa (i + 1)))), some (zi (nI (i + 1)))] ⟨rfl, rfl, rfl, rfl, rfl, ?_, ?_, trivial⟩ (ih (i + 1) (by omega))
              · rw [e]; rfl
              · show some (zi (nI i + 1)) = _
                rw [nI_1]
            · obtain ⟨b, hb⟩ := tI_s h5
              have hbl := (tkr_lt hb).1
              have hblt : (b : Int) < (I 1).toInt := by omega
              refine z_al iX11_cutBy_61 rfl ?_
              refine z_al iX11_cutBy_62 rfl ?_
              refine z_gf iX11_cutBy_63 hR.1 rfl ?_
              refine z_il iX11_cutBy_66 rfl ?_
              refine z_iald iX11_cutBy_68 (hR.2.1 13 (by decide)) (nI_toInt (n := i) (by omega)) (show i < 10 by omega) ?_
              refine z_al iX11_cutBy_69 rfl ?_
              refine z_gf iX11_cutBy_70 hR.1 rfl ?_
              refine z_il iX11_cutBy_73 rfl ?_
              refine z_iald iX11_cutBy_75 (hR.2.1 13 (by decide)) (show (tI (tkr A L m fa i)).toInt = (b : Int) by rw [hb]; exact nI_toInt (n := b) (by omega)) (show b < 10 by omega) ?_
              refine z_cv2i (fr' := fr - 1) iX11_cutBy_76 zmX11_isMore hR.1 (c11_isMore hR (zEt hV hlt).1 (zEt hV hlt).2.1 (zEt hV hblt).1 (zEt hV hblt).2.1) (by omega) (Nat.le_of_ble_eq_true rfl) (fun x M1 hq => ?_)
              obtain ⟨rfl, rfl⟩ := hq
              refine z_ib_eq iX11_cutBy_79 (fun h6 => ?_) (fun h6 => ?_)
              · refine z_in iX11_cutBy_86 rfl ?_
                refine z_goto iX11_cutBy_89 ?_
                have e : tkr A L m fa (i + 1) = some b := tkr_2 ⟨h2, h3, h4⟩ hb (fun q => h6 ((zMoreM (zEgV hV hlt) (zEgV hV hblt)).mpr q))
                refine z_loc [some (zr (40, 0)), some (zi m), some (zi fa), some (zi c), some (zi s), some (zi (tI (tkr A L m fa (i + 1)))), some (zi (nI (i + 1)))] ⟨rfl, rfl, rfl, rfl, rfl, ?_, ?_, trivial⟩ (ih (i + 1) (by omega))
                · rw [e]
                  show some (zi (tI (tkr A L m fa i))) = _
                  rw [hb]
                · show some (zi (nI i + 1)) = _
                  rw [nI_1]
              · refine z_il iX11_cutBy_82 rfl ?_
                refine z_is iX11_cutBy_84 ?_
                refine z_in iX11_cutBy_86 rfl ?_
                refine z_goto iX11_cutBy_89 ?_
                have e : tkr A L m fa (i + 1) = some i := tkr_1 ⟨h2, h3, h4⟩ hb ((zMoreM (zEgV hV hlt) (zEgV hV hblt)).mp h6)
                refine z_loc [some (zr (40, 0)), some (zi m), some (zi fa), some (zi c), some (zi s), some (zi (tI (tkr A L m fa (i + 1)))), some (zi (nI (i + 1)))] ⟨rfl, rfl, rfl, rfl, rfl, ?_, ?_, trivial⟩ (ih (i + 1) (by omega))
                · rw [e]; rfl
                · show some (zi (nI i + 1)) = _
                  rw [nI_1]
          · refine z_goto iX11_cutBy_52 ?_
            refine z_in iX11_cutBy_86 rfl ?_
            refine z_goto iX11_cutBy_89 ?_
            have e : tkr A L m fa (i + 1) = (tkr A L m fa i) := tkr_no (fun q => h4 q.2.2)
            refine z_loc [some (zr (40, 0)), some (zi m), some (zi fa), some (zi c), some (zi s), some (zi (tI (tkr A L m fa (i + 1)))), some (zi (nI (i + 1)))] ⟨rfl, rfl, rfl, rfl, rfl, ?_, ?_, trivial⟩ (ih (i + 1) (by omega))
            · rw [e]; rfl
            · show some (zi (nI i + 1)) = _
              rw [nI_1]
