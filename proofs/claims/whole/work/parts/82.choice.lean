/-- the best of a set's bits below k -/
def bsn (nx : Nat → Nat) (k : Nat) : Option Nat → Option Nat
  | none => some k
  | some b => if nx k < nx b then some b else some k
def bst (D : Nat) (nx : Nat → Nat) : Nat → Option Nat
  | 0 => none
  | k + 1 => if D.testBit k = true then bsn nx k (bst D nx k) else bst D nx k
theorem bst_no {D k : Nat} {nx : Nat → Nat} (h : ¬ D.testBit k = true) : bst D nx (k + 1) = bst D nx k := if_neg h
theorem bst_0 {D k : Nat} {nx : Nat → Nat} (h : D.testBit k = true) (hb : bst D nx k = none) : bst D nx (k + 1) = some k := by
  show (if D.testBit k = true then bsn nx k (bst D nx k) else bst D nx k) = some k
  rw [if_pos h, hb]; rfl
theorem bst_1 {D k b : Nat} {nx : Nat → Nat} (h : D.testBit k = true) (hb : bst D nx k = some b) (hn : nx k < nx b) : bst D nx (k + 1) = some b := by
  show (if D.testBit k = true then bsn nx k (bst D nx k) else bst D nx k) = some b
  rw [if_pos h, hb]; exact if_pos hn
theorem bst_2 {D k b : Nat} {nx : Nat → Nat} (h : D.testBit k = true) (hb : bst D nx k = some b) (hn : ¬ nx k < nx b) : bst D nx (k + 1) = some k := by
  show (if D.testBit k = true then bsn nx k (bst D nx k) else bst D nx k) = some k
  rw [if_pos h, hb]; exact if_neg hn
theorem bst_f {D : Nat} {nx : Nat → Nat} : ∀ k, (bst D nx k = none → ∀ f, f < k → ¬ D.testBit f = true) ∧ ∀ g, bst D nx k = some g → g < k ∧ D.testBit g = true ∧ ∀ f, f < k → D.testBit f = true → nx f < nx g ∨ nx f = nx g ∧ f ≤ g
  | 0 => ⟨fun _ f h => absurd h (Nat.not_lt_zero f), fun g h => by cases h⟩
  | k + 1 => by
    obtain ⟨a1, a2⟩ := bst_f (D := D) (nx := nx) k
    by_cases z : D.testBit k = true
    · cases hb : bst D nx k with
      | none =>
        rw [bst_0 z hb]
        refine ⟨fun h => (by cases h), fun g h => ?_⟩
        cases h
        refine ⟨by omega, z, fun f hf hD => ?_⟩
        by_cases z2 : f = k
        · exact Or.inr ⟨by rw [z2], by omega⟩
        · exact absurd hD (a1 hb f (by omega))
      | some b =>
        obtain ⟨b1, b2, b3⟩ := a2 b hb
        by_cases z3 : nx k < nx b
        · rw [bst_1 z hb z3]
          refine ⟨fun h => (by cases h), fun g h => ?_⟩
          cases h
          refine ⟨by omega, b2, fun f hf hD => ?_⟩
          by_cases z2 : f = k
          · rw [z2]; exact Or.inl z3
          · exact b3 f (by omega) hD
        · rw [bst_2 z hb z3]
          refine ⟨fun h => (by cases h), fun g h => ?_⟩
          cases h
          refine ⟨by omega, z, fun f hf hD => ?_⟩
          by_cases z2 : f = k
          · exact Or.inr ⟨by rw [z2], by omega⟩
          · have := b3 f (by omega) hD
            omega
    · rw [bst_no z]
      refine ⟨fun h f hf => ?_, fun g h => ?_⟩
      · by_cases z2 : f = k
        · rw [z2]; exact z
        · exact a1 h f (by omega)
      · obtain ⟨b1, b2, b3⟩ := a2 g h
        refine ⟨by omega, b2, fun f hf hD => ?_⟩
        by_cases z2 : f = k
        · rw [z2] at hD; exact absurd hD z
        · exact b3 f (by omega) hD
theorem bst_P {D : Nat} {nx : Nat → Nat} (hD : D < 1024) (h0 : ¬ D = 0) : ∃ g, bst D nx 10 = some g ∧ tpP D nx g := by
  cases hb : bst D nx 10 with
  | none =>
    refine absurd (mEq (fun f => ?_)) h0
    rw [Nat.zero_testBit]
    cases z : D.testBit f with
    | false => rfl
    | true => exact absurd z ((bst_f 10).1 hb f (mBit_lt hD z))
  | some g =>
    obtain ⟨b1, b2, b3⟩ := (bst_f 10).2 g hb
    exact ⟨g, rfl, b2, fun f hf => b3 f (mBit_lt hD hf) hf⟩
theorem mk_one {a f : Nat} (ha : a < 1024) (hf : f < 10) : (nI a >>> (nI f &&& 31)) &&& 1 = 1 ↔ a.testBit f = true := by
  rw [mk_test a ha f hf]
  by_cases z : a.testBit f = true
  · rw [if_pos z]; exact ⟨fun _ => z, fun _ => rfl⟩
  · rw [if_neg z]; exact ⟨fun q => absurd q (by decide), fun q => absurd q z⟩
set_option maxRecDepth 20000 in
set_option maxHeartbeats 4000000 in
theorem l11_choice {fr : Nat} {M : zM} {Q : Option zVal → zM → Prop} {I J : zSI} {A : zSA} {L : zSL} {K : Int64} (hR : RepM M I A L J K) {N : Nat} {W P : Nat → Nat} (hJ : jmR I A N W P) {rr dd ff : Int32} {t w s : Nat} (hf : 2 ≤ fr) (hs : s < N) (ht : t < 1024) (hw : w < 1024) (KK : zV zX11_changesOf fr 0 0 139 (zL [some (zr (40, 0)), some (zi rr), some (zi (nI t)), some (zi dd), some (zi (nI s)), some (zi (nI w)), some (zi ff), some (zi (tI (bst (mD t w) (fun f => nxF (fun i => W (P i)) f (N - (s + 1)) (s + 1)) 10))), some (zi (nI 10))]) [] M Q)  : ∀ (n i : Nat), i + n = 10 → zV zX11_changesOf fr 0 0 77 (zL [some (zr (40, 0)), some (zi rr), some (zi (nI t)), some (zi dd), some (zi (nI s)), some (zi (nI w)), some (zi ff), some (zi (tI (bst (mD t w) (fun f => nxF (fun i => W (P i)) f (N - (s + 1)) (s + 1)) i))), some (zi (nI i))]) [] M Q := by
  intro n
  induction n with
  | zero =>
    intro i  hn 
    have ei := nI_toInt (n := i) (by omega)
    refine z_il iX11_changesOf_77 rfl ?_
    refine z_co iX11_changesOf_79 ?_
    refine z_icmp_ge iX11_changesOf_81 (fun h1 => ?_) (fun h1 => ?_)
    · have hi10 : i = 10 := by omega
      subst hi10
      refine z_loc [some (zr (40, 0)), some (zi rr), some (zi (nI t)), some (zi dd), some (zi (nI s)), some (zi (nI w)), some (zi ff), some (zi (tI (bst (mD t w) (fun f => nxF (fun i => W (P i)) f (N - (s + 1)) (s + 1)) 10))), some (zi (nI 10))] ⟨rfl, rfl, rfl, rfl, rfl, rfl, rfl, rfl, rfl, trivial⟩ KK
    · exfalso
      simp only [zi_le, Int32.reduceToInt, ei] at h1
      omega
  | succ n ih =>
    intro i  hn 
    have ei := nI_toInt (n := i) (by omega)
    refine z_il iX11_changesOf_77 rfl ?_
    refine z_co iX11_changesOf_79 ?_
    refine z_icmp_ge iX11_changesOf_81 (fun h1 => ?_) (fun h1 => ?_)
    · exfalso
      simp only [zi_le, Int32.reduceToInt, ei] at h1
      omega
    · refine z_il iX11_changesOf_84 rfl ?_
      refine z_il iX11_changesOf_85 rfl ?_
      refine z_ishr iX11_changesOf_87 ?_
      refine z_co iX11_changesOf_88 ?_
      refine z_iand iX11_changesOf_89 ?_
      refine z_co iX11_changesOf_90 ?_
      refine z_icmp_ne iX11_changesOf_91 (fun h2 => ?_) (fun h2 => ?_)
      · refine z_in iX11_changesOf_133 rfl ?_
        refine z_goto iX11_changesOf_136 ?_
        have e : bst (mD t w) (fun f => nxF (fun i => W (P i)) f (N - (s + 1)) (s + 1)) (i + 1) = (bst (mD t w) (fun f => nxF (fun i => W (P i)) f (N - (s + 1)) (s + 1)) i) := bst_no (fun q => h2 ((mk_one ht (by omega)).mpr (mD_i.mp q).1))
        refine z_loc [some (zr (40, 0)), some (zi rr), some (zi (nI t)), some (zi dd), some (zi (nI s)), some (zi (nI w)), some (zi ff), some (zi (tI (bst (mD t w) (fun f => nxF (fun i => W (P i)) f (N - (s + 1)) (s + 1)) (i + 1)))), some (zi (nI (i + 1)))] ⟨rfl, rfl, rfl, rfl, rfl, rfl, rfl, ?_, ?_, trivial⟩ (ih (i + 1) (by omega))
        · rw [e]; rfl
        · show some (zi (nI i + 1)) = _
          rw [nI_1]
      · refine z_il iX11_changesOf_94 rfl ?_
        refine z_il iX11_changesOf_96 rfl ?_
        refine z_ishr iX11_changesOf_98 ?_
        refine z_co iX11_changesOf_99 ?_
        refine z_iand iX11_changesOf_100 ?_
        refine z_if_ne iX11_changesOf_101 (fun h3 => ?_) (fun h3 => ?_)
        · refine z_in iX11_changesOf_133 rfl ?_
          refine z_goto iX11_changesOf_136 ?_
          have e : bst (mD t w) (fun f => nxF (fun i => W (P i)) f (N - (s + 1)) (s + 1)) (i + 1) = (bst (mD t w) (fun f => nxF (fun i => W (P i)) f (N - (s + 1)) (s + 1)) i) := bst_no (fun q => by
            have q2 := (mD_i.mp q).2
            exact absurd (Decidable.of_not_not (fun z => h3 ((mk_set hw (by omega)).mpr z)) : w.testBit i = true) (by rw [q2]; decide))
          refine z_loc [some (zr (40, 0)), some (zi rr), some (zi (nI t)), some (zi dd), some (zi (nI s)), some (zi (nI w)), some (zi ff), some (zi (tI (bst (mD t w) (fun f => nxF (fun i => W (P i)) f (N - (s + 1)) (s + 1)) (i + 1)))), some (zi (nI (i + 1)))] ⟨rfl, rfl, rfl, rfl, rfl, rfl, rfl, ?_, ?_, trivial⟩ (ih (i + 1) (by omega))
          · rw [e]; rfl
          · show some (zi (nI i + 1)) = _
            rw [nI_1]
        · have hbit : (mD t w).testBit i = true := mD_i.mpr ⟨(mk_one ht (by omega)).mp h2, Bool.eq_false_iff.mpr ((mk_set hw (by omega)).mp h3)⟩
          refine z_il iX11_changesOf_104 rfl ?_
          refine z_co iX11_changesOf_106 ?_
          refine z_icmp_eq iX11_changesOf_107 (fun h4 => ?_) (fun h4 => ?_)
          · have hb0 := tI_n (fun g q => ((bst_f i).2 g q).1) (by omega) h4
            refine z_il iX11_changesOf_129 rfl ?_
            refine z_is iX11_changesOf_131 ?_
            refine z_in iX11_changesOf_133 rfl ?_
            refine z_goto iX11_changesOf_136 ?_
            have e : bst (mD t w) (fun f => nxF (fun i => W (P i)) f (N - (s + 1)) (s + 1)) (i + 1) = (some i) := bst_0 hbit hb0
            refine z_loc [some (zr (40, 0)), some (zi rr), some (zi (nI t)), some (zi dd), some (zi (nI s)), some (zi (nI w)), some (zi ff), some (zi (tI (bst (mD t w) (fun f => nxF (fun i => W (P i)) f (N - (s + 1)) (s + 1)) (i + 1)))), some (zi (nI (i + 1)))] ⟨rfl, rfl, rfl, rfl, rfl, rfl, rfl, ?_, ?_, trivial⟩ (ih (i + 1) (by omega))
            · rw [e]; rfl
            · show some (zi (nI i + 1)) = _
              rw [nI_1]
          · obtain ⟨b, hb⟩ := tI_s h4
            have hbi := ((bst_f i).2 b hb).1
            have F := fun f => nxF_f (V := fun i => W (P i)) (f := f) (N - (s + 1)) (s + 1)
            have hN6 := hJ.2.2.2.1
            refine z_al iX11_changesOf_110 rfl ?_
            refine z_il iX11_changesOf_111 rfl ?_
            refine z_il iX11_changesOf_113 rfl ?_
            refine z_cv2i (fr' := fr - 1) iX11_changesOf_115 zmX11_nextOf hR.1 (c11_nextOf hR hJ hs (show i < 10 by omega)) (by omega) (Nat.le_of_ble_eq_true rfl) (fun x M1 hq => ?_)
            obtain ⟨rfl, rfl⟩ := hq
            refine z_al iX11_changesOf_118 rfl ?_
            refine z_il iX11_changesOf_119 rfl ?_
            rw [hb, show tI (some b) = nI b from rfl]
            refine z_il iX11_changesOf_121 rfl ?_
            refine z_cv2i (fr' := fr - 1) iX11_changesOf_123 zmX11_nextOf hR.1 (c11_nextOf hR hJ hs (show b < 10 by omega)) (by omega) (Nat.le_of_ble_eq_true rfl) (fun x M1 hq => ?_)
            obtain ⟨rfl, rfl⟩ := hq
            refine z_icmp_lt iX11_changesOf_126 (fun h5 => ?_) (fun h5 => ?_)
            · have hlt : (fun f => nxF (fun i => W (P i)) f (N - (s + 1)) (s + 1)) i < (fun f => nxF (fun i => W (P i)) f (N - (s + 1)) (s + 1)) b := by
                have a1 := (F i).2.1
                have a2 := (F b).2.1
                have e1 := nI_toInt (n := nxF (fun i => W (P i)) i (N - (s + 1)) (s + 1)) (by omega)
                have e2 := nI_toInt (n := nxF (fun i => W (P i)) b (N - (s + 1)) (s + 1)) (by omega)
                rw [zi_lt, e1, e2] at h5
                show nxF (fun i => W (P i)) i (N - (s + 1)) (s + 1) < nxF (fun i => W (P i)) b (N - (s + 1)) (s + 1)
                omega
              refine z_in iX11_changesOf_133 rfl ?_
              refine z_goto iX11_changesOf_136 ?_
              have e : bst (mD t w) (fun f => nxF (fun i => W (P i)) f (N - (s + 1)) (s + 1)) (i + 1) = (some b) := bst_1 hbit hb hlt
              refine z_loc [some (zr (40, 0)), some (zi rr), some (zi (nI t)), some (zi dd), some (zi (nI s)), some (zi (nI w)), some (zi ff), some (zi (tI (bst (mD t w) (fun f => nxF (fun i => W (P i)) f (N - (s + 1)) (s + 1)) (i + 1)))), some (zi (nI (i + 1)))] ⟨rfl, rfl, rfl, rfl, rfl, rfl, rfl, ?_, ?_, trivial⟩ (ih (i + 1) (by omega))
              · rw [e]; rfl
              · show some (zi (nI i + 1)) = _
                rw [nI_1]
            · have hge : ¬ (fun f => nxF (fun i => W (P i)) f (N - (s + 1)) (s + 1)) i < (fun f => nxF (fun i => W (P i)) f (N - (s + 1)) (s + 1)) b := by
                have a1 := (F i).2.1
                have a2 := (F b).2.1
                have e1 := nI_toInt (n := nxF (fun i => W (P i)) i (N - (s + 1)) (s + 1)) (by omega)
                have e2 := nI_toInt (n := nxF (fun i => W (P i)) b (N - (s + 1)) (s + 1)) (by omega)
                rw [zi_lt, e1, e2] at h5
                show ¬ nxF (fun i => W (P i)) i (N - (s + 1)) (s + 1) < nxF (fun i => W (P i)) b (N - (s + 1)) (s + 1)
                omega
              refine z_il iX11_changesOf_129 rfl ?_
              refine z_is iX11_changesOf_131 ?_
              refine z_in iX11_changesOf_133 rfl ?_
              refine z_goto iX11_changesOf_136 ?_
              have e : bst (mD t w) (fun f => nxF (fun i => W (P i)) f (N - (s + 1)) (s + 1)) (i + 1) = (some i) := bst_2 hbit hb hge
              refine z_loc [some (zr (40, 0)), some (zi rr), some (zi (nI t)), some (zi dd), some (zi (nI s)), some (zi (nI w)), some (zi ff), some (zi (tI (bst (mD t w) (fun f => nxF (fun i => W (P i)) f (N - (s + 1)) (s + 1)) (i + 1)))), some (zi (nI (i + 1)))] ⟨rfl, rfl, rfl, rfl, rfl, rfl, rfl, ?_, ?_, trivial⟩ (ih (i + 1) (by omega))
              · rw [e]; rfl
              · show some (zi (nI i + 1)) = _
                rw [nI_1]
