theorem z8 {x p : Int32} {e P : Nat} (hx : x.toInt = (e : Int)) (he : e < 24) (hp : p.toInt = (P : Int)) (hP : P < 100) : (8 * x + p).toInt = ((8 * e + P : Nat) : Int) := by
  have e1 : (8 * x).toInt = 8 * x.toInt := zmul (by simp only [Int32.reduceToInt]; omega) (by simp only [Int32.reduceToInt]; omega)
  rw [zadd (by omega) (by omega)]
  omega
theorem z8m {x p : Int32} {e P : Nat} (hx : x.toInt = (e : Int)) (he : e < 24) (hp : p.toInt = (P : Int)) (hP : P < 100) (h1 : 1 ≤ P) : (8 * x + p - 1).toInt = ((8 * e + (P - 1) : Nat) : Int) := by
  have h := z8 hx he hp hP
  rw [zsub (by rw [h]; simp only [Int32.reduceToInt]; omega) (by rw [h]; simp only [Int32.reduceToInt]; omega), h]
  simp only [Int32.reduceToInt]
  omega
/-- a row's places moved down, up to i -/
def shR (a : Nat → Int32) (e i : Nat) : Nat → Int32 := fun j => if 8 * e ≤ j ∧ j + 1 < 8 * e + i then a (j + 1) else a j
theorem shR_1 {a : Nat → Int32} {e i : Nat} (hi : 1 ≤ i) : zup (shR a e i) (8 * e + (i - 1)) (shR a e i (8 * e + i)) = shR a e (i + 1) := by
  funext j
  unfold zup shR
  by_cases z : j = 8 * e + (i - 1)
  · rw [if_pos z, if_neg (by omega), if_pos (by omega), show j + 1 = 8 * e + i by omega]
  · rw [if_neg z]
    by_cases z2 : 8 * e ≤ j ∧ j + 1 < 8 * e + i
    · rw [if_pos z2, if_pos (by omega)]
    · rw [if_neg z2, if_neg (by omega)]
theorem shR_0 {a : Nat → Int32} {e : Nat} : shR a e 1 = a := funext fun j => if_neg (by omega)
/-- the model's rows behind a cut's trail -/
def sA_go (A : zSA) (e n : Nat) (m : Int32) : zSA := zup (zup A 10 (goR (A 10) e n m)) 11 (zup (A 11) e (nI (goN (fun j => A 10 (8 * e + j)) n m)))
set_option maxRecDepth 20000 in
set_option maxHeartbeats 4000000 in
theorem t_goes {fr : Nat} {M M0 : zM} {I J : zSI} {A A1 : zSA} {L : zSL} {K : Int64} (hR : RepM M I A1 L J K) (hfr : ∀ a : zAd, a.1 < 40 → M a = M0 a) {ei m : Int32} {e n n1 : Nat} (hi : ei.toInt = (e : Int)) (he : e < 24) (hn1 : n1 < 8) (h11 : A1 11 e = nI n1) (hA : zup (zup A1 10 (zup (A1 10) (8 * e + n1) m)) 11 (zup (A1 11) e (nI (n1 + 1))) = sA_go A e n m) : zV zX11_goesOn fr 0 0 91 (zL [some (zr (40, 0)), some (zi ei), some (zi m), some (zi (8 * ei))]) [] M (fun r M' => r = none ∧ RepM M' I (sA_go A e n m) L J K ∧ ∀ a : zAd, a.1 < 40 → M' a = M0 a) := by
  have en := nI_toInt (n := n1) (by omega)
  refine z_al iX11_goesOn_91 rfl ?_
  refine z_gf iX11_goesOn_92 hR.1 rfl ?_
  refine z_il iX11_goesOn_95 rfl ?_
  refine z_al iX11_goesOn_96 rfl ?_
  refine z_gf iX11_goesOn_97 hR.1 rfl ?_
  refine z_il iX11_goesOn_100 rfl ?_
  refine z_iald iX11_goesOn_101 (hR.2.1 11 (by decide)) hi he ?_
  rw [h11]
  refine z_iadd iX11_goesOn_102 ?_
  refine z_il iX11_goesOn_103 rfl ?_
  refine z_iast iX11_goesOn_104 (hR.2.1 10 (by decide)) (show 2 ≤ 41 by decide) (z8 hi he en (by omega)) (show 8 * e + n1 < 192 by omega) ?_
  refine z_al iX11_goesOn_105 rfl ?_
  refine z_gf iX11_goesOn_106 ((zupd_k (Nat.ne_of_beq_eq_false rfl)).trans hR.1) rfl ?_
  refine z_il iX11_goesOn_109 rfl ?_
  refine z_dup2 iX11_goesOn_110 ?_
  refine z_iald iX11_goesOn_111 ((zupd_i (Nat.ne_of_beq_eq_false rfl)).trans (hR.2.1 11 (by decide))) hi he ?_
  refine z_co iX11_goesOn_112 ?_
  refine z_iadd iX11_goesOn_113 ?_
  refine z_iast iX11_goesOn_114 ((zupd_i (Nat.ne_of_beq_eq_false rfl)).trans (hR.2.1 11 (by decide))) (show 2 ≤ 41 by decide) hi he ?_
  refine z_vret iX11_goesOn_115 rfl ?_
  refine ⟨rfl, ((hR.arr 10 (zup (A1 10) (8 * e + n1) m)).arr 11 (zup (A1 11) e (A1 11 e + 1))).cast rfl (by rw [h11, ← nI_succ]; exact hA), fun a ha => (zupd_k (by omega)).trans ((zupd_k (by omega)).trans (hfr a ha))⟩
set_option maxRecDepth 20000 in
set_option maxHeartbeats 4000000 in
theorem l11_goes {fr : Nat} {M0 : zM} {I J : zSI} {A : zSA} {L : zSL} {K : Int64} {Q : Option zVal → zM → Prop} {ei m : Int32} {e : Nat} (hi : ei.toInt = (e : Int)) (he : e < 24) (KK : ∀ M : zM, RepM M I (zup A 10 (shR (A 10) e 8)) L J K → (∀ a : zAd, a.1 < 40 → M a = M0 a) → zV zX11_goesOn fr 0 0 81 (zL [some (zr (40, 0)), some (zi ei), some (zi m), some (zi (8 * ei))]) [] M Q)  : ∀ (n i : Nat) (M : zM), i + n = 8 → 1 ≤ i → RepM M I (zup A 10 (shR (A 10) e i)) L J K → (∀ a : zAd, a.1 < 40 → M a = M0 a) → zV zX11_goesOn fr 0 0 48 (zL [some (zr (40, 0)), some (zi ei), some (zi m), some (zi (8 * ei)), some (zi (nI i))]) [] M Q := by
  intro n
  induction n with
  | zero =>
    intro i M hn hi1 hR hfr
    refine z_il iX11_goesOn_48 rfl ?_
    refine z_co iX11_goesOn_50 ?_
    refine z_icmp_ge iX11_goesOn_52 (fun h1 => ?_) (fun h1 => ?_)
    · have hi8 : i = 8 := by omega
      subst hi8
      refine z_loc [some (zr (40, 0)), some (zi ei), some (zi m), some (zi (8 * ei))] ⟨rfl, rfl, rfl, rfl, trivial⟩ (KK _ hR hfr)
    · exfalso
      have e1 := nI_toInt (n := i) (by omega)
      simp only [zi_le, Int32.reduceToInt, e1] at h1
      omega
  | succ n ih =>
    intro i M hn hi1 hR hfr
    refine z_il iX11_goesOn_48 rfl ?_
    refine z_co iX11_goesOn_50 ?_
    refine z_icmp_ge iX11_goesOn_52 (fun h1 => ?_) (fun h1 => ?_)
    · exfalso
      have e1 := nI_toInt (n := i) (by omega)
      simp only [zi_le, Int32.reduceToInt, e1] at h1
      omega
    · refine z_al iX11_goesOn_55 rfl ?_
      refine z_gf iX11_goesOn_56 hR.1 rfl ?_
      refine z_il iX11_goesOn_59 rfl ?_
      refine z_il iX11_goesOn_60 rfl ?_
      refine z_iadd iX11_goesOn_62 ?_
      refine z_co iX11_goesOn_63 ?_
      refine z_isub iX11_goesOn_64 ?_
      refine z_al iX11_goesOn_65 rfl ?_
      refine z_gf iX11_goesOn_66 hR.1 rfl ?_
      refine z_il iX11_goesOn_69 rfl ?_
      refine z_il iX11_goesOn_70 rfl ?_
      refine z_iadd iX11_goesOn_72 ?_
      refine z_iald iX11_goesOn_73 (hR.2.1 10 (by decide)) (z8 hi he (nI_toInt (n := i) (by omega)) (by omega)) (show 8 * e + i < 192 by omega) ?_
      refine z_iast iX11_goesOn_74 (hR.2.1 10 (by decide)) (show 2 ≤ 41 by decide) (z8m hi he (nI_toInt (n := i) (by omega)) (by omega) hi1) (show 8 * e + (i - 1) < 192 by omega) ?_
      refine z_in iX11_goesOn_75 rfl ?_
      refine z_goto iX11_goesOn_78 ?_
      have hR2 := hR.arr 10 (zup (shR (A 10) e i) (8 * e + (i - 1)) (shR (A 10) e i (8 * e + i)))
      refine z_loc [some (zr (40, 0)), some (zi ei), some (zi m), some (zi (8 * ei)), some (zi (nI (i + 1)))] ⟨rfl, rfl, rfl, rfl, ?_, trivial⟩ (ih (i + 1) _ (by omega) (by omega) (hR2.cast rfl (by rw [shR_1 hi1, zup_u])) (fun a ha => (zupd_k (by omega)).trans (hfr a ha)))
      show some (zi (nI i + 1)) = _
      rw [nI_1]
set_option maxRecDepth 20000 in
set_option maxHeartbeats 4000000 in
theorem t8_goes {fr : Nat} {M M0 : zM} {I J : zSI} {A : zSA} {L : zSL} {K : Int64} {e n : Nat} (hR : RepM M I (zup A 10 (shR (A 10) e 8)) L J K) (hfr : ∀ a : zAd, a.1 < 40 → M a = M0 a) {ei m : Int32} (hi : ei.toInt = (e : Int)) (he : e < 24) (h8 : n = 8) (h11 : A 11 e = nI n) (hcc : ¬ (0 < n ∧ A 10 (8 * e + (n - 1)) = m)) : zV zX11_goesOn fr 0 0 81 (zL [some (zr (40, 0)), some (zi ei), some (zi m), some (zi (8 * ei))]) [] M (fun r M' => r = none ∧ RepM M' I (sA_go A e n m) L J K ∧ ∀ a : zAd, a.1 < 40 → M' a = M0 a) := by
  refine z_al iX11_goesOn_81 rfl ?_
  refine z_gf iX11_goesOn_82 hR.1 rfl ?_
  refine z_il iX11_goesOn_85 rfl ?_
  refine z_dup2 iX11_goesOn_86 ?_
  refine z_iald iX11_goesOn_87 (hR.2.1 11 (by decide)) hi he ?_
  refine z_co iX11_goesOn_88 ?_
  refine z_isub iX11_goesOn_89 ?_
  refine z_iast iX11_goesOn_90 (hR.2.1 11 (by decide)) (show 2 ≤ 41 by decide) hi he ?_
  refine z_loc [some (zr (40, 0)), some (zi ei), some (zi m), some (zi (8 * ei))] ⟨rfl, rfl, rfl, rfl, trivial⟩ ?_
  have hR2 := hR.arr 11 (zup (A 11) e (A 11 e - 1))
  refine t_goes (n1 := 7) hR2 (fun a ha => (zupd_k (by omega)).trans (hfr a ha)) hi he (by decide) ?_ ?_
  · rw [zup_s, zup_s, h11, h8]
    rfl
  · unfold sA_go goR goN
    rw [if_neg hcc, if_pos h8, if_neg hcc, if_pos h8]
    funext k
    by_cases z : k = 11
    · rw [z, zup_s, zup_s, zup_s, zup_u]
    · rw [zup_n z, zup_n z]
      by_cases z2 : k = 10
      · rw [z2, zup_s, zup_s, zup_n (by decide), zup_s]
        funext j
        unfold zup shR
        by_cases z3 : j = 8 * e + 7
        · rw [if_pos z3, if_neg (by omega), if_pos z3]
        · rw [if_neg z3]
          by_cases z4 : 8 * e ≤ j ∧ j < 8 * e + 7
          · rw [if_pos z4, if_pos (by omega)]
          · rw [if_neg z4, if_neg (by omega), if_neg z3]
      · rw [zup_n z2, zup_n z2, zup_n z, zup_n z2]
set_option maxRecDepth 20000 in
set_option maxHeartbeats 4000000 in
theorem c11_goesOn {fr : Nat} {M : zM} {I J : zSI} {A : zSA} {L : zSL} {K : Int64} (hR : RepM M I A L J K) {ei m : Int32} {e n : Nat} (hi : ei.toInt = (e : Int)) (he : e < 24) (hn : n ≤ 8) (h11 : A 11 e = nI n) : zCv zX11_goesOn fr 0 0 [zr (40, 0), zi ei, zi m] M (fun M' => RepM M' I (sA_go A e n m) L J K ∧ ∀ a : zAd, a.1 < 40 → M' a = M a) := by
  refine z_enter (L := [some (zr (40, 0)), some (zi ei), some (zi m)]) rfl (by decide +kernel) (Nat.le_of_ble_eq_true rfl) ?_
  have en := nI_toInt (n := n) (by omega)
  refine z_co iX11_goesOn_0 ?_
  refine z_il iX11_goesOn_2 rfl ?_
  refine z_imul iX11_goesOn_3 ?_
  refine z_is iX11_goesOn_4 ?_
  refine z_al iX11_goesOn_5 rfl ?_
  refine z_gf iX11_goesOn_6 hR.1 rfl ?_
  refine z_il iX11_goesOn_9 rfl ?_
  refine z_iald iX11_goesOn_10 (hR.2.1 11 (by decide)) hi he ?_
  rw [h11]
  refine z_if_le iX11_goesOn_11 (fun h1 => ?_) (fun h1 => ?_)
  · have hcc : ¬ (0 < n ∧ A 10 (8 * e + (n - 1)) = m) := fun q => by
      have z := h1
      simp only [zi_le, Int32.reduceToInt, en] at z
      omega
    refine z_al iX11_goesOn_34 rfl ?_
    refine z_gf iX11_goesOn_35 hR.1 rfl ?_
    refine z_il iX11_goesOn_38 rfl ?_
    refine z_iald iX11_goesOn_39 (hR.2.1 11 (by decide)) hi he ?_
    refine z_co iX11_goesOn_40 ?_
    refine z_icmp_ne iX11_goesOn_42 (fun h2 => ?_) (fun h2 => ?_)
    · have hx8 := h2
      have h8 : ¬ n = 8 := fun q => hx8 (by rw [h11, q]; rfl)
      refine z_loc [some (zr (40, 0)), some (zi ei), some (zi m), some (zi (8 * ei))] ⟨rfl, rfl, rfl, rfl, trivial⟩ ?_
      refine t_goes (n1 := n) hR (fun _ _ => rfl) hi he (by omega) h11 ?_
      unfold sA_go goR goN
      rw [if_neg hcc, if_neg h8, if_neg hcc, if_neg h8]
    · have hx8 := h2
      refine z_co iX11_goesOn_45 ?_
      refine z_is iX11_goesOn_46 ?_
      have h8 : n = 8 := by
        have z := hx8
        rw [h11] at z
        have z2 := congrArg Int32.toInt z
        rw [en] at z2
        simp only [Int32.reduceToInt] at z2
        omega
      refine z_loc [some (zr (40, 0)), some (zi ei), some (zi m), some (zi (8 * ei)), some (zi (nI 1))] ⟨rfl, rfl, rfl, rfl, rfl, trivial⟩ (l11_goes (M0 := M) (A := A) hi he (fun M2 hR2 hfr2 => ?_) 7 1 _ (by decide) (by decide) (by rw [shR_0, zupA_id]; exact hR) (fun _ _ => rfl))
      exact t8_goes hR2 hfr2 hi he h8 h11 hcc
  · have hpos : 1 ≤ n := by
      have z := h1
      simp only [zi_le, Int32.reduceToInt, en] at z
      omega
    refine z_al iX11_goesOn_14 rfl ?_
    refine z_gf iX11_goesOn_15 hR.1 rfl ?_
    refine z_il iX11_goesOn_18 rfl ?_
    refine z_al iX11_goesOn_19 rfl ?_
    refine z_gf iX11_goesOn_20 hR.1 rfl ?_
    refine z_il iX11_goesOn_23 rfl ?_
    refine z_iald iX11_goesOn_24 (hR.2.1 11 (by decide)) hi he ?_
    rw [h11]
    refine z_iadd iX11_goesOn_25 ?_
    refine z_co iX11_goesOn_26 ?_
    refine z_isub iX11_goesOn_27 ?_
    refine z_iald iX11_goesOn_28 (hR.2.1 10 (by decide)) (z8m hi he en (by omega) hpos) (show 8 * e + (n - 1) < 192 by omega) ?_
    refine z_il iX11_goesOn_29 rfl ?_
    refine z_icmp_ne iX11_goesOn_30 (fun h3 => ?_) (fun h3 => ?_)
    · have hcc : ¬ (0 < n ∧ A 10 (8 * e + (n - 1)) = m) := fun q => h3 q.2
      refine z_al iX11_goesOn_34 rfl ?_
      refine z_gf iX11_goesOn_35 hR.1 rfl ?_
      refine z_il iX11_goesOn_38 rfl ?_
      refine z_iald iX11_goesOn_39 (hR.2.1 11 (by decide)) hi he ?_
      refine z_co iX11_goesOn_40 ?_
      refine z_icmp_ne iX11_goesOn_42 (fun h4 => ?_) (fun h4 => ?_)
      · have hx8 := h4
        have h8 : ¬ n = 8 := fun q => hx8 (by rw [h11, q]; rfl)
        refine z_loc [some (zr (40, 0)), some (zi ei), some (zi m), some (zi (8 * ei))] ⟨rfl, rfl, rfl, rfl, trivial⟩ ?_
        refine t_goes (n1 := n) hR (fun _ _ => rfl) hi he (by omega) h11 ?_
        unfold sA_go goR goN
        rw [if_neg hcc, if_neg h8, if_neg hcc, if_neg h8]
      · have hx8 := h4
        refine z_co iX11_goesOn_45 ?_
        refine z_is iX11_goesOn_46 ?_
        have h8 : n = 8 := by
          have z := hx8
          rw [h11] at z
          have z2 := congrArg Int32.toInt z
          rw [en] at z2
          simp only [Int32.reduceToInt] at z2
          omega
        refine z_loc [some (zr (40, 0)), some (zi ei), some (zi m), some (zi (8 * ei)), some (zi (nI 1))] ⟨rfl, rfl, rfl, rfl, rfl, trivial⟩ (l11_goes (M0 := M) (A := A) hi he (fun M2 hR2 hfr2 => ?_) 7 1 _ (by decide) (by decide) (by rw [shR_0, zupA_id]; exact hR) (fun _ _ => rfl))
        exact t8_goes hR2 hfr2 hi he h8 h11 hcc
    · have hcc : 0 < n ∧ A 10 (8 * e + (n - 1)) = m := ⟨hpos, h3⟩
      refine z_vret iX11_goesOn_33 rfl ?_
      refine ⟨rfl, hR.cast rfl ?_, fun _ _ => rfl⟩
      unfold sA_go goR goN
      rw [if_pos hcc, if_pos hcc, zupA_id, ← h11, zup_id, zupA_id]
abbrev zMore (A : zSA) (L : zSL) (a b : Nat) : Prop := (L b).toInt * (A 4 a).toInt < (L a).toInt * (A 4 b).toInt
theorem lg_gt {x y : Int64} : ¬ lg_cmp x y ≤ 0 ↔ y < x := by
  unfold lg_cmp
  by_cases z : x > y
  · rw [if_pos z]; exact ⟨fun _ => z, fun _ => by decide⟩
  · rw [if_neg z]
    refine ⟨fun q => ?_, fun q => absurd q z⟩
    split at q
    · exact absurd (by decide) q
    · exact absurd (by decide) q
theorem mul64 {x y : Int64} (h1 : 0 ≤ x.toInt ∧ x.toInt ≤ 500000) (h2 : 0 ≤ y.toInt ∧ y.toInt ≤ 500000) : (x * y).toInt = x.toInt * y.toInt := by
  rw [Int64.toInt_mul]
  have h3 : 0 ≤ x.toInt * y.toInt := Int.mul_nonneg h1.1 h2.1
  have h4 : x.toInt * y.toInt ≤ 500000 * 500000 := Int.mul_le_mul h1.2 h2.2 h2.1 (by decide)
  exact Int.bmod_eq_of_le (by omega) (by omega)
theorem n100 {x : Int32} (h : 1 ≤ x.toInt ∧ x.toInt ≤ 999) : (100 * x.toInt64).toInt = 100 * x.toInt := by
  rw [mul64 ⟨by decide, by decide⟩ ⟨by rw [Int32.toInt_toInt64]; omega, by rw [Int32.toInt_toInt64]; omega⟩, Int32.toInt_toInt64]
  rfl
/-- what is known of an edge -/
abbrev zEg (A : zSA) (L : zSL) (e : Nat) : Prop := (1 ≤ (A 4 e).toInt ∧ (A 4 e).toInt ≤ 999) ∧ 0 ≤ (L e).toInt ∧ (L e).toInt ≤ 400000
theorem zMoreX {A : zSA} {L : zSL} {a b : Nat} (ha : zEg A L a) (hb : zEg A L b) : ¬ lg_cmp (L a * (100 * (A 4 b).toInt64)) (L b * (100 * (A 4 a).toInt64)) ≤ 0 ↔ zMore A L a b := by
  rw [lg_gt, Int64.lt_iff_toInt_lt, mul64 ⟨hb.2.1, by omega⟩ ⟨by rw [n100 ha.1]; omega, by rw [n100 ha.1]; omega⟩, mul64 ⟨ha.2.1, by omega⟩ ⟨by rw [n100 hb.1]; omega, by rw [n100 hb.1]; omega⟩, n100 ha.1, n100 hb.1]
  show (L b).toInt * (100 * (A 4 a).toInt) < (L a).toInt * (100 * (A 4 b).toInt) ↔ _
  rw [Int.mul_left_comm, Int.mul_left_comm (L a).toInt]
  constructor <;> intro h <;> (unfold zMore at *; omega)
theorem zMoreM {A : zSA} {L : zSL} {a b : Nat} (ha : zEg A L a) (hb : zEg A L b) : ¬ lg_cmp (L a * (A 4 b).toInt64) (L b * (A 4 a).toInt64) ≤ 0 ↔ zMore A L a b := by
  rw [lg_gt, Int64.lt_iff_toInt_lt, mul64 ⟨hb.2.1, by omega⟩ ⟨by rw [Int32.toInt_toInt64]; omega, by rw [Int32.toInt_toInt64]; omega⟩, mul64 ⟨ha.2.1, by omega⟩ ⟨by rw [Int32.toInt_toInt64]; omega, by rw [Int32.toInt_toInt64]; omega⟩, Int32.toInt_toInt64, Int32.toInt_toInt64]
set_option maxRecDepth 20000 in
set_option maxHeartbeats 4000000 in
theorem c0_more {fr : Nat} {M : zM} {a b : zAd} {y0 y1 y2 y4 y5 y6 y7 y8 y9 y10 y11 : Int32} {y12 : Int64} {yb : zAd} {w0 w1 w2 w4 w5 w6 w7 w8 w9 w10 w11 : Int32} {w12 : Int64} {wb : zAd} (hf : 1 ≤ fr) (hthis : M a = some (.inr (0, [zi y0, zi y1, zi y2, zr yb, zi y4, zi y5, zi y6, zi y7, zi y8, zi y9, zi y10, zi y11, zl y12]))) (hoth : M b = some (.inr (0, [zi w0, zi w1, zi w2, zr wb, zi w4, zi w5, zi w6, zi w7, zi w8, zi w9, zi w10, zi w11, zl w12]))) : zCi zX0_isMoreUsedThan fr 0 0 [zr a, zr b] M (fun x M' => M' = M ∧ x = zbo (¬ lg_cmp (y12 * (100 * w2.toInt64)) (w12 * (100 * y2.toInt64)) ≤ 0)) := by
  refine z_enter (L := [some (zr a), some (zr b)]) rfl (by decide +kernel) (Nat.le_of_ble_eq_true rfl) ?_
  refine z_al iX0_isMoreUsedThan_0 rfl ?_
  refine z_gf iX0_isMoreUsedThan_1 hthis rfl ?_
  refine z_al iX0_isMoreUsedThan_4 rfl ?_
  refine z_cv0j (fr' := fr - 1) iX0_isMoreUsedThan_5 zmX0_wearInAll hoth (c0_inAll hoth) (by omega) (Nat.le_of_ble_eq_true rfl) (fun x M1 hq => ?_)
  obtain ⟨rfl, rfl⟩ := hq
  refine z_lmul iX0_isMoreUsedThan_8 ?_
  refine z_al iX0_isMoreUsedThan_9 rfl ?_
  refine z_gf iX0_isMoreUsedThan_10 hoth rfl ?_
  refine z_al iX0_isMoreUsedThan_13 rfl ?_
  refine z_cv0j (fr' := fr - 1) iX0_isMoreUsedThan_14 zmX0_wearInAll hthis (c0_inAll hthis) (by omega) (Nat.le_of_ble_eq_true rfl) (fun x M1 hq => ?_)
  obtain ⟨rfl, rfl⟩ := hq
  refine z_lmul iX0_isMoreUsedThan_17 ?_
  refine z_lcmp iX0_isMoreUsedThan_18 ?_
  refine z_if_le iX0_isMoreUsedThan_19 (fun h1 => ?_) (fun h1 => ?_)
  · refine z_co iX0_isMoreUsedThan_26 ?_
    refine z_zret iX0_isMoreUsedThan_27 rfl rfl ?_
    first | exact ⟨_, rfl, rfl, (zbo_1 h1).symm⟩ | exact ⟨_, rfl, rfl, (zbo_0 (fun q => q h1)).symm⟩
  · refine z_co iX0_isMoreUsedThan_22 ?_
    refine z_goto iX0_isMoreUsedThan_23 ?_
    refine z_zret iX0_isMoreUsedThan_27 rfl rfl ?_
    first | exact ⟨_, rfl, rfl, (zbo_1 h1).symm⟩ | exact ⟨_, rfl, rfl, (zbo_0 (fun q => q h1)).symm⟩
set_option maxRecDepth 20000 in
set_option maxHeartbeats 4000000 in
theorem c11_isMore {fr : Nat} {M : zM} {I J : zSI} {A : zSA} {L : zSL} {K : Int64} (hR : RepM M I A L J K) {x y : Int32} {a b : Nat} (hx : x.toInt = (a : Int)) (ha : a < 24) (hy : y.toInt = (b : Int)) (hb : b < 24) : zCi zX11_isMore fr 0 0 [zr (40, 0), zi x, zi y] M (fun v M' => M' = M ∧ v = zbo (¬ lg_cmp (L a * (A 4 b).toInt64) (L b * (A 4 a).toInt64) ≤ 0)) := by
  refine z_enter (L := [some (zr (40, 0)), some (zi x), some (zi y)]) rfl (by decide +kernel) (Nat.le_of_ble_eq_true rfl) ?_
  refine z_al iX11_isMore_0 rfl ?_
  refine z_gf iX11_isMore_1 hR.1 rfl ?_
  refine z_il iX11_isMore_4 rfl ?_
  refine z_lald iX11_isMore_5 hR.2.2 hx ha ?_
  refine z_al iX11_isMore_6 rfl ?_
  refine z_gf iX11_isMore_7 hR.1 rfl ?_
  refine z_il iX11_isMore_10 rfl ?_
  refine z_iald iX11_isMore_11 (hR.2.1 4 (by decide)) hy hb ?_
  refine z_i2l iX11_isMore_12 ?_
  refine z_lmul iX11_isMore_13 ?_
  refine z_al iX11_isMore_14 rfl ?_
  refine z_gf iX11_isMore_15 hR.1 rfl ?_
  refine z_il iX11_isMore_18 rfl ?_
  refine z_lald iX11_isMore_19 hR.2.2 hy hb ?_
  refine z_al iX11_isMore_20 rfl ?_
  refine z_gf iX11_isMore_21 hR.1 rfl ?_
  refine z_il iX11_isMore_24 rfl ?_
  refine z_iald iX11_isMore_25 (hR.2.1 4 (by decide)) hx ha ?_
  refine z_i2l iX11_isMore_26 ?_
  refine z_lmul iX11_isMore_27 ?_
  refine z_lcmp iX11_isMore_28 ?_
  refine z_if_le iX11_isMore_29 (fun h1 => ?_) (fun h1 => ?_)
  · refine z_co iX11_isMore_36 ?_
    refine z_zret iX11_isMore_37 rfl rfl ?_
    first | exact ⟨_, rfl, rfl, (zbo_1 h1).symm⟩ | exact ⟨_, rfl, rfl, (zbo_0 (fun q => q h1)).symm⟩
  · refine z_co iX11_isMore_32 ?_
    refine z_goto iX11_isMore_33 ?_
    refine z_zret iX11_isMore_37 rfl rfl ?_
    first | exact ⟨_, rfl, rfl, (zbo_1 h1).symm⟩ | exact ⟨_, rfl, rfl, (zbo_0 (fun q => q h1)).symm⟩
