theorem pqLp_n {T : Nat → Int32} {f : Int32 → Option Int32} {b : pqS → pqS} {s : pqS} (h : f (pqTk T s) = none) : ∀ n, pqLp T f b n s = s
  | 0 => rfl
  | n + 1 => by unfold pqLp; rw [h]
theorem pqLp_s {T : Nat → Int32} {f : Int32 → Option Int32} {b : pqS → pqS} {s : pqS} {x : Int32} {n : Nat} (h : f (pqTk T s) = some x) : pqLp T f b (n + 1) s = pqLp T f b n (pqAdd x (b (pqAdv s))) := by
  conv => lhs; unfold pqLp
  rw [h]
/-- a method of the reader does X -/
abbrev crC (Y : zY) (M0 : zM) (t N : Nat) (cl : Int32) (T : Nat → Int32) (P : Nat → Nat) (F : Nat) (d : Int32) (X : pqS → pqS) : Prop := ∀ (fr : Nat) (M : zM) (s : pqS), F ≤ fr → crS M0 M t N cl T P s → zCv Y fr 0 0 [zr (11, 0), zi d] M (fun M' => crS M0 M' t N cl T P (X s))
set_option maxRecDepth 20000 in
set_option maxHeartbeats 4000000 in
theorem lr_readTerm {fr : Nat} {M0 : zM} {t nn N : Nat} {cl : Int32} {T : Nat → Int32} {P : Nat → Nat} (hT : tpS M0 T P nn N) {d : Int32} {F : Nat} {one : pqS → pqS} (H : (crC zX3_readOne M0 t N cl T P F d one)) (hF : 3 ≤ F) (hf : F + 1 ≤ fr) : ∀ (n i : Nat) (M : zM) (s : pqS), i + n = 160 → crS M0 M t N cl T P s → zV zX3_readTerm fr 0 0 7 (zL [some (zr (11, 0)), some (zi d), some (zi (nI i))]) [] M (fun r M' => r = none ∧ crS M0 M' t N cl T P  (pqLp T pqT one n s)) := by
  intro n
  induction n with
  | zero =>
    intro i M s hn hS
    refine z_il iX3_readTerm_7 rfl ?_
    refine z_co iX3_readTerm_8 ?_
    refine z_icmp_ge iX3_readTerm_11 (fun h1 => ?_) (fun h1 => ?_)
    · refine z_vret iX3_readTerm_43 rfl ?_
      exact ⟨rfl, hS⟩
    · exfalso
      have e1 := nI_toInt (n := i) (by omega)
      simp only [zi_le, Int32.reduceToInt, e1] at h1
      omega
  | succ n ih =>
    intro i M s hn hS
    refine z_il iX3_readTerm_7 rfl ?_
    refine z_co iX3_readTerm_8 ?_
    refine z_icmp_ge iX3_readTerm_11 (fun h1 => ?_) (fun h1 => ?_)
    · exfalso
      have e1 := nI_toInt (n := i) (by omega)
      simp only [zi_le, Int32.reduceToInt, e1] at h1
      omega
    · refine z_al iX3_readTerm_14 rfl ?_
      refine z_co iX3_readTerm_15 ?_
      refine z_cv1i (fr' := fr - 1) iX3_readTerm_17 zmX3_accept hS.1.1 (cr_accept (by omega) hS hT (-42) (by decide) (by decide)) (by omega) (Nat.le_of_ble_eq_true rfl) (fun x M1 hq => ?_)
      obtain ⟨rfl, hS2⟩ := hq
      refine z_ib_eq iX3_readTerm_20 (fun h2 => ?_) (fun h2 => ?_)
      · rw [if_neg h2] at hS2
        have hS := hS2
        refine z_vret iX3_readTerm_43 rfl ?_
        refine ⟨rfl, ?_⟩
        rw [pqLp_n (f := pqT) (if_neg h2)]
        exact hS
      · rw [if_pos h2] at hS2
        have hS := hS2
        refine z_al iX3_readTerm_23 rfl ?_
        refine z_il iX3_readTerm_24 rfl ?_
        refine z_cv1v (fr' := fr - 1) iX3_readTerm_25 zmX3_readOne hS.1.1 (H _ _ _ (by omega) hS) (by omega) (Nat.le_of_ble_eq_true rfl) (fun M1 hq => ?_)
        have hS := hq
        refine z_al iX3_readTerm_28 rfl ?_
        refine z_gf iX3_readTerm_29 hS.1.1 rfl ?_
        refine z_co iX3_readTerm_32 ?_
        refine z_cv1v (fr' := fr - 1) iX3_readTerm_34 zmX8_add hS.1.2.1 (cr_add (by omega) hS _) (by omega) (Nat.le_of_ble_eq_true rfl) (fun M1 hq => ?_)
        have hS := hq
        refine z_in iX3_readTerm_37 rfl ?_
        refine z_goto iX3_readTerm_40 ?_
        rw [pqLp_s (f := pqT) (x := -9) (if_pos h2)]
        refine z_loc [some (zr (11, 0)), some (zi d), some (zi (nI (i + 1)))] ⟨rfl, rfl, ?_, trivial⟩ (ih (i + 1) _ _ (by omega) hS)
        show some (zi (nI i + 1)) = _
        rw [nI_1]
set_option maxRecDepth 20000 in
set_option maxHeartbeats 4000000 in
theorem cr_readTerm {M0 : zM} {t nn N : Nat} {cl : Int32} {T : Nat → Int32} {P : Nat → Nat} (hT : tpS M0 T P nn N) {d : Int32} {F : Nat} {one : pqS → pqS} (H : (crC zX3_readOne M0 t N cl T P F d one)) (hF : 3 ≤ F) : (crC zX3_readTerm M0 t N cl T P (F + 1) d (pqTerm T one)) := by
  intro fr M s hf hS
  refine z_enter (L := [some (zr (11, 0)), some (zi d)]) rfl (by decide +kernel) (Nat.le_of_ble_eq_true rfl) ?_
  refine z_al iX3_readTerm_0 rfl ?_
  refine z_il iX3_readTerm_1 rfl ?_
  refine z_cv1v (fr' := fr - 1) iX3_readTerm_2 zmX3_readOne hS.1.1 (H _ _ _ (by omega) hS) (by omega) (Nat.le_of_ble_eq_true rfl) (fun M1 hq => ?_)
  have hS := hq
  refine z_co iX3_readTerm_5 ?_
  refine z_is iX3_readTerm_6 ?_
  refine z_loc [some (zr (11, 0)), some (zi d), some (zi (nI 0))] ⟨rfl, rfl, rfl, trivial⟩ ?_
  exact lr_readTerm hT H hF hf 160 0 _ _ rfl hS
set_option maxRecDepth 20000 in
set_option maxHeartbeats 4000000 in
theorem lr_readSum {fr : Nat} {M0 : zM} {t nn N : Nat} {cl : Int32} {T : Nat → Int32} {P : Nat → Nat} (hT : tpS M0 T P nn N) {d : Int32} {F : Nat} {one : pqS → pqS} (H : (crC zX3_readTerm M0 t N cl T P F d (pqTerm T one))) (hF : 3 ≤ F) (hf : F + 1 ≤ fr) : ∀ (n i : Nat) (M : zM) (s : pqS), i + n = 160 → crS M0 M t N cl T P s → zV zX3_readSum fr 0 0 7 (zL [some (zr (11, 0)), some (zi d), some (zi (nI i))]) [] M (fun r M' => r = none ∧ crS M0 M' t N cl T P  (pqLp T pqU (pqTerm T one) n s)) := by
  intro n
  induction n with
  | zero =>
    intro i M s hn hS
    refine z_il iX3_readSum_7 rfl ?_
    refine z_co iX3_readSum_8 ?_
    refine z_icmp_ge iX3_readSum_11 (fun h1 => ?_) (fun h1 => ?_)
    · refine z_vret iX3_readSum_72 rfl ?_
      exact ⟨rfl, hS⟩
    · exfalso
      have e1 := nI_toInt (n := i) (by omega)
      simp only [zi_le, Int32.reduceToInt, e1] at h1
      omega
  | succ n ih =>
    intro i M s hn hS
    refine z_il iX3_readSum_7 rfl ?_
    refine z_co iX3_readSum_8 ?_
    refine z_icmp_ge iX3_readSum_11 (fun h1 => ?_) (fun h1 => ?_)
    · exfalso
      have e1 := nI_toInt (n := i) (by omega)
      simp only [zi_le, Int32.reduceToInt, e1] at h1
      omega
    · refine z_al iX3_readSum_14 rfl ?_
      refine z_gf iX3_readSum_15 hS.1.1 rfl ?_
      refine z_co iX3_readSum_18 ?_
      refine z_icmp_eq iX3_readSum_20 (fun h2 => ?_) (fun h2 => ?_)
      · refine z_al iX3_readSum_32 rfl ?_
        refine z_gf iX3_readSum_33 hS.1.1 rfl ?_
        refine z_co iX3_readSum_36 ?_
        refine z_icmp_ne iX3_readSum_38 (fun h3 => ?_) (fun h3 => ?_)
        · exact absurd h2 h3
        · refine z_co iX3_readSum_41 ?_
          refine z_goto iX3_readSum_43 ?_
          refine z_is iX3_readSum_48 ?_
          refine z_al iX3_readSum_49 rfl ?_
          refine z_cv0v (fr' := fr - 1) iX3_readSum_50 zmX3_advance hS.1.1 (cr_advance (by omega) hS.1 hS.2 hT (pqTk_b h2 (by decide)).1) (by omega) (Nat.le_of_ble_eq_true rfl) (fun M1 hq => ?_)
          have hS := (⟨hq, tpS.lt hT h2 (by decide) (by decide)⟩ : crS M0 M1 t N cl T P (pqAdv s))
          refine z_al iX3_readSum_53 rfl ?_
          refine z_il iX3_readSum_54 rfl ?_
          refine z_cv1v (fr' := fr - 1) iX3_readSum_55 zmX3_readTerm hS.1.1 (H _ _ _ (by omega) hS) (by omega) (Nat.le_of_ble_eq_true rfl) (fun M1 hq => ?_)
          have hS := hq
          refine z_al iX3_readSum_58 rfl ?_
          refine z_gf iX3_readSum_59 hS.1.1 rfl ?_
          refine z_il iX3_readSum_62 rfl ?_
          refine z_cv1v (fr' := fr - 1) iX3_readSum_63 zmX8_add hS.1.2.1 (cr_add (by omega) hS _) (by omega) (Nat.le_of_ble_eq_true rfl) (fun M1 hq => ?_)
          have hS := hq
          refine z_in iX3_readSum_66 rfl ?_
          refine z_goto iX3_readSum_69 ?_
          rw [pqLp_s (f := pqU) (x := -10) (if_pos h2)]
          refine z_loc [some (zr (11, 0)), some (zi d), some (zi (nI (i + 1)))] ⟨rfl, rfl, ?_, trivial⟩ (ih (i + 1) _ _ (by omega) hS)
          show some (zi (nI i + 1)) = _
          rw [nI_1]
      · refine z_al iX3_readSum_23 rfl ?_
        refine z_gf iX3_readSum_24 hS.1.1 rfl ?_
        refine z_co iX3_readSum_27 ?_
        refine z_icmp_ne iX3_readSum_29 (fun h4 => ?_) (fun h4 => ?_)
        · have hx := h4
          refine z_vret iX3_readSum_72 rfl ?_
          refine ⟨rfl, ?_⟩
          rw [pqLp_n (f := pqU) ((if_neg h2).trans (if_neg hx))]
          exact hS
        · have hy := h4
          refine z_al iX3_readSum_32 rfl ?_
          refine z_gf iX3_readSum_33 hS.1.1 rfl ?_
          refine z_co iX3_readSum_36 ?_
          refine z_icmp_ne iX3_readSum_38 (fun h5 => ?_) (fun h5 => ?_)
          · refine z_co iX3_readSum_46 ?_
            refine z_is iX3_readSum_48 ?_
            refine z_al iX3_readSum_49 rfl ?_
            refine z_cv0v (fr' := fr - 1) iX3_readSum_50 zmX3_advance hS.1.1 (cr_advance (by omega) hS.1 hS.2 hT (pqTk_b hy (by decide)).1) (by omega) (Nat.le_of_ble_eq_true rfl) (fun M1 hq => ?_)
            have hS := (⟨hq, tpS.lt hT hy (by decide) (by decide)⟩ : crS M0 M1 t N cl T P (pqAdv s))
            refine z_al iX3_readSum_53 rfl ?_
            refine z_il iX3_readSum_54 rfl ?_
            refine z_cv1v (fr' := fr - 1) iX3_readSum_55 zmX3_readTerm hS.1.1 (H _ _ _ (by omega) hS) (by omega) (Nat.le_of_ble_eq_true rfl) (fun M1 hq => ?_)
            have hS := hq
            refine z_al iX3_readSum_58 rfl ?_
            refine z_gf iX3_readSum_59 hS.1.1 rfl ?_
            refine z_il iX3_readSum_62 rfl ?_
            refine z_cv1v (fr' := fr - 1) iX3_readSum_63 zmX8_add hS.1.2.1 (cr_add (by omega) hS _) (by omega) (Nat.le_of_ble_eq_true rfl) (fun M1 hq => ?_)
            have hS := hq
            refine z_in iX3_readSum_66 rfl ?_
            refine z_goto iX3_readSum_69 ?_
            rw [pqLp_s (f := pqU) (x := -11) ((if_neg h2).trans (if_pos hy))]
            refine z_loc [some (zr (11, 0)), some (zi d), some (zi (nI (i + 1)))] ⟨rfl, rfl, ?_, trivial⟩ (ih (i + 1) _ _ (by omega) hS)
            show some (zi (nI i + 1)) = _
            rw [nI_1]
          · exact absurd h5 h2
set_option maxRecDepth 20000 in
set_option maxHeartbeats 4000000 in
theorem cr_readSum {M0 : zM} {t nn N : Nat} {cl : Int32} {T : Nat → Int32} {P : Nat → Nat} (hT : tpS M0 T P nn N) {d : Int32} {F : Nat} {one : pqS → pqS} (H : (crC zX3_readTerm M0 t N cl T P F d (pqTerm T one))) (hF : 3 ≤ F) : (crC zX3_readSum M0 t N cl T P (F + 1) d (pqSum T one)) := by
  intro fr M s hf hS
  refine z_enter (L := [some (zr (11, 0)), some (zi d)]) rfl (by decide +kernel) (Nat.le_of_ble_eq_true rfl) ?_
  refine z_al iX3_readSum_0 rfl ?_
  refine z_il iX3_readSum_1 rfl ?_
  refine z_cv1v (fr' := fr - 1) iX3_readSum_2 zmX3_readTerm hS.1.1 (H _ _ _ (by omega) hS) (by omega) (Nat.le_of_ble_eq_true rfl) (fun M1 hq => ?_)
  have hS := hq
  refine z_co iX3_readSum_5 ?_
  refine z_is iX3_readSum_6 ?_
  refine z_loc [some (zr (11, 0)), some (zi d), some (zi (nI 0))] ⟨rfl, rfl, rfl, trivial⟩ ?_
  exact lr_readSum hT H hF hf 160 0 _ _ rfl hS
set_option maxRecDepth 20000 in
set_option maxHeartbeats 4000000 in
theorem lr_readBoth {fr : Nat} {M0 : zM} {t nn N : Nat} {cl : Int32} {T : Nat → Int32} {P : Nat → Nat} (hT : tpS M0 T P nn N) {d : Int32} {F : Nat} {nt : pqS → pqS} (H : (crC zX3_readNot M0 t N cl T P F d nt)) (hF : 3 ≤ F) (hf : F + 1 ≤ fr) : ∀ (n i : Nat) (M : zM) (s : pqS), i + n = 160 → crS M0 M t N cl T P s → zV zX3_readBoth fr 0 0 7 (zL [some (zr (11, 0)), some (zi d), some (zi (nI i))]) [] M (fun r M' => r = none ∧ crS M0 M' t N cl T P  (pqLp T pqA nt n s)) := by
  intro n
  induction n with
  | zero =>
    intro i M s hn hS
    refine z_il iX3_readBoth_7 rfl ?_
    refine z_co iX3_readBoth_8 ?_
    refine z_icmp_ge iX3_readBoth_11 (fun h1 => ?_) (fun h1 => ?_)
    · refine z_vret iX3_readBoth_43 rfl ?_
      exact ⟨rfl, hS⟩
    · exfalso
      have e1 := nI_toInt (n := i) (by omega)
      simp only [zi_le, Int32.reduceToInt, e1] at h1
      omega
  | succ n ih =>
    intro i M s hn hS
    refine z_il iX3_readBoth_7 rfl ?_
    refine z_co iX3_readBoth_8 ?_
    refine z_icmp_ge iX3_readBoth_11 (fun h1 => ?_) (fun h1 => ?_)
    · exfalso
      have e1 := nI_toInt (n := i) (by omega)
      simp only [zi_le, Int32.reduceToInt, e1] at h1
      omega
    · refine z_al iX3_readBoth_14 rfl ?_
      refine z_co iX3_readBoth_15 ?_
      refine z_cv1i (fr' := fr - 1) iX3_readBoth_17 zmX3_accept hS.1.1 (cr_accept (by omega) hS hT (-14) (by decide) (by decide)) (by omega) (Nat.le_of_ble_eq_true rfl) (fun x M1 hq => ?_)
      obtain ⟨rfl, hS2⟩ := hq
      refine z_ib_eq iX3_readBoth_20 (fun h2 => ?_) (fun h2 => ?_)
      · rw [if_neg h2] at hS2
        have hS := hS2
        refine z_vret iX3_readBoth_43 rfl ?_
        refine ⟨rfl, ?_⟩
        rw [pqLp_n (f := pqA) (if_neg h2)]
        exact hS
      · rw [if_pos h2] at hS2
        have hS := hS2
        refine z_al iX3_readBoth_23 rfl ?_
        refine z_il iX3_readBoth_24 rfl ?_
        refine z_cv1v (fr' := fr - 1) iX3_readBoth_25 zmX3_readNot hS.1.1 (H _ _ _ (by omega) hS) (by omega) (Nat.le_of_ble_eq_true rfl) (fun M1 hq => ?_)
        have hS := hq
        refine z_al iX3_readBoth_28 rfl ?_
        refine z_gf iX3_readBoth_29 hS.1.1 rfl ?_
        refine z_co iX3_readBoth_32 ?_
        refine z_cv1v (fr' := fr - 1) iX3_readBoth_34 zmX8_add hS.1.2.1 (cr_add (by omega) hS _) (by omega) (Nat.le_of_ble_eq_true rfl) (fun M1 hq => ?_)
        have hS := hq
        refine z_in iX3_readBoth_37 rfl ?_
        refine z_goto iX3_readBoth_40 ?_
        rw [pqLp_s (f := pqA) (x := -14) (if_pos h2)]
        refine z_loc [some (zr (11, 0)), some (zi d), some (zi (nI (i + 1)))] ⟨rfl, rfl, ?_, trivial⟩ (ih (i + 1) _ _ (by omega) hS)
        show some (zi (nI i + 1)) = _
        rw [nI_1]
set_option maxRecDepth 20000 in
set_option maxHeartbeats 4000000 in
theorem cr_readBoth {M0 : zM} {t nn N : Nat} {cl : Int32} {T : Nat → Int32} {P : Nat → Nat} (hT : tpS M0 T P nn N) {d : Int32} {F : Nat} {nt : pqS → pqS} (H : (crC zX3_readNot M0 t N cl T P F d nt)) (hF : 3 ≤ F) : (crC zX3_readBoth M0 t N cl T P (F + 1) d (pqBoth T nt)) := by
  intro fr M s hf hS
  refine z_enter (L := [some (zr (11, 0)), some (zi d)]) rfl (by decide +kernel) (Nat.le_of_ble_eq_true rfl) ?_
  refine z_al iX3_readBoth_0 rfl ?_
  refine z_il iX3_readBoth_1 rfl ?_
  refine z_cv1v (fr' := fr - 1) iX3_readBoth_2 zmX3_readNot hS.1.1 (H _ _ _ (by omega) hS) (by omega) (Nat.le_of_ble_eq_true rfl) (fun M1 hq => ?_)
  have hS := hq
  refine z_co iX3_readBoth_5 ?_
  refine z_is iX3_readBoth_6 ?_
  refine z_loc [some (zr (11, 0)), some (zi d), some (zi (nI 0))] ⟨rfl, rfl, rfl, trivial⟩ ?_
  exact lr_readBoth hT H hF hf 160 0 _ _ rfl hS
set_option maxRecDepth 20000 in
set_option maxHeartbeats 4000000 in
theorem lr_readEither {fr : Nat} {M0 : zM} {t nn N : Nat} {cl : Int32} {T : Nat → Int32} {P : Nat → Nat} (hT : tpS M0 T P nn N) {d : Int32} {F : Nat} {nt : pqS → pqS} (H : (crC zX3_readBoth M0 t N cl T P F d (pqBoth T nt))) (hF : 3 ≤ F) (hf : F + 1 ≤ fr) : ∀ (n i : Nat) (M : zM) (s : pqS), i + n = 160 → crS M0 M t N cl T P s → zV zX3_readEither fr 0 0 7 (zL [some (zr (11, 0)), some (zi d), some (zi (nI i))]) [] M (fun r M' => r = none ∧ crS M0 M' t N cl T P  (pqLp T pqO (pqBoth T nt) n s)) := by
  intro n
  induction n with
  | zero =>
    intro i M s hn hS
    refine z_il iX3_readEither_7 rfl ?_
    refine z_co iX3_readEither_8 ?_
    refine z_icmp_ge iX3_readEither_11 (fun h1 => ?_) (fun h1 => ?_)
    · refine z_vret iX3_readEither_43 rfl ?_
      exact ⟨rfl, hS⟩
    · exfalso
      have e1 := nI_toInt (n := i) (by omega)
      simp only [zi_le, Int32.reduceToInt, e1] at h1
      omega
  | succ n ih =>
    intro i M s hn hS
    refine z_il iX3_readEither_7 rfl ?_
    refine z_co iX3_readEither_8 ?_
    refine z_icmp_ge iX3_readEither_11 (fun h1 => ?_) (fun h1 => ?_)
    · exfalso
      have e1 := nI_toInt (n := i) (by omega)
      simp only [zi_le, Int32.reduceToInt, e1] at h1
      omega
    · refine z_al iX3_readEither_14 rfl ?_
      refine z_co iX3_readEither_15 ?_
      refine z_cv1i (fr' := fr - 1) iX3_readEither_17 zmX3_accept hS.1.1 (cr_accept (by omega) hS hT (-15) (by decide) (by decide)) (by omega) (Nat.le_of_ble_eq_true rfl) (fun x M1 hq => ?_)
      obtain ⟨rfl, hS2⟩ := hq
      refine z_ib_eq iX3_readEither_20 (fun h2 => ?_) (fun h2 => ?_)
      · rw [if_neg h2] at hS2
        have hS := hS2
        refine z_vret iX3_readEither_43 rfl ?_
        refine ⟨rfl, ?_⟩
        rw [pqLp_n (f := pqO) (if_neg h2)]
        exact hS
      · rw [if_pos h2] at hS2
        have hS := hS2
        refine z_al iX3_readEither_23 rfl ?_
        refine z_il iX3_readEither_24 rfl ?_
        refine z_cv1v (fr' := fr - 1) iX3_readEither_25 zmX3_readBoth hS.1.1 (H _ _ _ (by omega) hS) (by omega) (Nat.le_of_ble_eq_true rfl) (fun M1 hq => ?_)
        have hS := hq
        refine z_al iX3_readEither_28 rfl ?_
        refine z_gf iX3_readEither_29 hS.1.1 rfl ?_
        refine z_co iX3_readEither_32 ?_
        refine z_cv1v (fr' := fr - 1) iX3_readEither_34 zmX8_add hS.1.2.1 (cr_add (by omega) hS _) (by omega) (Nat.le_of_ble_eq_true rfl) (fun M1 hq => ?_)
        have hS := hq
        refine z_in iX3_readEither_37 rfl ?_
        refine z_goto iX3_readEither_40 ?_
        rw [pqLp_s (f := pqO) (x := -15) (if_pos h2)]
        refine z_loc [some (zr (11, 0)), some (zi d), some (zi (nI (i + 1)))] ⟨rfl, rfl, ?_, trivial⟩ (ih (i + 1) _ _ (by omega) hS)
        show some (zi (nI i + 1)) = _
        rw [nI_1]
set_option maxRecDepth 20000 in
set_option maxHeartbeats 4000000 in
theorem cr_readEither {M0 : zM} {t nn N : Nat} {cl : Int32} {T : Nat → Int32} {P : Nat → Nat} (hT : tpS M0 T P nn N) {d : Int32} {F : Nat} {nt : pqS → pqS} (H : (crC zX3_readBoth M0 t N cl T P F d (pqBoth T nt))) (hF : 3 ≤ F) : (crC zX3_readEither M0 t N cl T P (F + 1) d (pqEith T nt)) := by
  intro fr M s hf hS
  refine z_enter (L := [some (zr (11, 0)), some (zi d)]) rfl (by decide +kernel) (Nat.le_of_ble_eq_true rfl) ?_
  refine z_al iX3_readEither_0 rfl ?_
  refine z_il iX3_readEither_1 rfl ?_
  refine z_cv1v (fr' := fr - 1) iX3_readEither_2 zmX3_readBoth hS.1.1 (H _ _ _ (by omega) hS) (by omega) (Nat.le_of_ble_eq_true rfl) (fun M1 hq => ?_)
  have hS := hq
  refine z_co iX3_readEither_5 ?_
  refine z_is iX3_readEither_6 ?_
  refine z_loc [some (zr (11, 0)), some (zi d), some (zi (nI 0))] ⟨rfl, rfl, rfl, trivial⟩ ?_
  exact lr_readEither hT H hF hf 160 0 _ _ rfl hS
set_option maxRecDepth 20000 in
set_option maxHeartbeats 4000000 in
theorem cr_not0 {M0 : zM} {t nn N : Nat} {cl : Int32} {T : Nat → Int32} {P : Nat → Nat} (hT : tpS M0 T P nn N) {d : Int32} {F : Nat} {one : pqS → pqS} (Hs : (crC zX3_readSum M0 t N cl T P F d (pqSum T one))) (hF : 3 ≤ F) (hd : ¬ d < 5) : (crC zX3_readNot M0 t N cl T P (F + 1) d (pqNot0 T one)) := by
  intro fr M s hf hS
  refine z_enter (L := [some (zr (11, 0)), some (zi d)]) rfl (by decide +kernel) (Nat.le_of_ble_eq_true rfl) ?_
  refine z_al iX3_readNot_0 rfl ?_
  refine z_gf iX3_readNot_1 hS.1.1 rfl ?_
  refine z_co iX3_readNot_4 ?_
  refine z_icmp_ne iX3_readNot_6 (fun h1 => ?_) (fun h1 => ?_)
  · refine z_al iX3_readNot_34 rfl ?_
    refine z_il iX3_readNot_35 rfl ?_
    refine z_cv1v (fr' := fr - 1) iX3_readNot_36 zmX3_readSum hS.1.1 (Hs _ _ _ (by omega) hS) (by omega) (Nat.le_of_ble_eq_true rfl) (fun M1 hq => ?_)
    have hS := hq
    refine z_al iX3_readNot_39 rfl ?_
    refine z_co iX3_readNot_40 ?_
    refine z_cv1i (fr' := fr - 1) iX3_readNot_42 zmX3_accept hS.1.1 (cr_accept (by omega) hS hT (-60) (by decide) (by decide)) (by omega) (Nat.le_of_ble_eq_true rfl) (fun x M1 hq => ?_)
    obtain ⟨rfl, hS2⟩ := hq
    refine z_ib_eq iX3_readNot_45 (fun h2 => ?_) (fun h2 => ?_)
    · rw [if_neg h2] at hS2
      have hS := hS2
      refine z_al iX3_readNot_65 rfl ?_
      refine z_co iX3_readNot_66 ?_
      refine z_cv1i (fr' := fr - 1) iX3_readNot_68 zmX3_accept hS.1.1 (cr_accept (by omega) hS hT (-61) (by decide) (by decide)) (by omega) (Nat.le_of_ble_eq_true rfl) (fun x M1 hq => ?_)
      obtain ⟨rfl, hS2⟩ := hq
      refine z_ib_eq iX3_readNot_71 (fun h3 => ?_) (fun h3 => ?_)
      · rw [if_neg h3] at hS2
        have hS := hS2
        refine z_vret iX3_readNot_88 rfl ?_
        refine ⟨rfl, ?_⟩
        unfold pqNot0 pqCmp pqCmp2
        rw [if_neg h1]
        first | (rw [if_pos h2]; exact hS) | (rw [if_neg h2, if_pos h3]; exact hS) | (rw [if_neg h2, if_neg h3]; exact hS)
      · rw [if_pos h3] at hS2
        have hS := hS2
        refine z_al iX3_readNot_74 rfl ?_
        refine z_il iX3_readNot_75 rfl ?_
        refine z_cv1v (fr' := fr - 1) iX3_readNot_76 zmX3_readSum hS.1.1 (Hs _ _ _ (by omega) hS) (by omega) (Nat.le_of_ble_eq_true rfl) (fun M1 hq => ?_)
        have hS := hq
        refine z_al iX3_readNot_79 rfl ?_
        refine z_gf iX3_readNot_80 hS.1.1 rfl ?_
        refine z_co iX3_readNot_83 ?_
        refine z_cv1v (fr' := fr - 1) iX3_readNot_85 zmX8_add hS.1.2.1 (cr_add (by omega) hS _) (by omega) (Nat.le_of_ble_eq_true rfl) (fun M1 hq => ?_)
        have hS := hq
        refine z_vret iX3_readNot_88 rfl ?_
        refine ⟨rfl, ?_⟩
        unfold pqNot0 pqCmp pqCmp2
        rw [if_neg h1]
        first | (rw [if_pos h2]; exact hS) | (rw [if_neg h2, if_pos h3]; exact hS) | (rw [if_neg h2, if_neg h3]; exact hS)
    · rw [if_pos h2] at hS2
      have hS := hS2
      refine z_al iX3_readNot_48 rfl ?_
      refine z_il iX3_readNot_49 rfl ?_
      refine z_cv1v (fr' := fr - 1) iX3_readNot_50 zmX3_readSum hS.1.1 (Hs _ _ _ (by omega) hS) (by omega) (Nat.le_of_ble_eq_true rfl) (fun M1 hq => ?_)
      have hS := hq
      refine z_al iX3_readNot_53 rfl ?_
      refine z_gf iX3_readNot_54 hS.1.1 rfl ?_
      refine z_co iX3_readNot_57 ?_
      refine z_cv1v (fr' := fr - 1) iX3_readNot_59 zmX8_add hS.1.2.1 (cr_add (by omega) hS _) (by omega) (Nat.le_of_ble_eq_true rfl) (fun M1 hq => ?_)
      have hS := hq
      refine z_goto iX3_readNot_62 ?_
      refine z_vret iX3_readNot_88 rfl ?_
      refine ⟨rfl, ?_⟩
      unfold pqNot0 pqCmp pqCmp2
      rw [if_neg h1]
      first | (rw [if_pos h2]; exact hS) | (rw [if_neg h2, if_pos h3]; exact hS) | (rw [if_neg h2, if_neg h3]; exact hS)
  · refine z_al iX3_readNot_9 rfl ?_
    refine z_il iX3_readNot_10 rfl ?_
    refine z_cv1i (fr' := fr - 1) iX3_readNot_11 zmX3_mayOpen hS.1.1 (cr_mayOpen (by omega) hS hT _ h1 (by decide) (by decide)) (by omega) (Nat.le_of_ble_eq_true rfl) (fun x M1 hq => ?_)
    obtain ⟨rfl, hS2⟩ := hq
    refine z_ib_eq iX3_readNot_14 (fun h4 => ?_) (fun h4 => ?_)
    · rw [if_neg hd] at hS2
      have hS := hS2
      refine z_vret iX3_readNot_33 rfl ?_
      refine ⟨rfl, ?_⟩
      unfold pqNot0
      rw [if_pos h1]
      exact hS
    · exact absurd (by assumption) hd
set_option maxRecDepth 20000 in
set_option maxHeartbeats 4000000 in
theorem cr_notS {M0 : zM} {t nn N : Nat} {cl : Int32} {T : Nat → Int32} {P : Nat → Nat} (hT : tpS M0 T P nn N) {d : Int32} {F : Nat} {one : pqS → pqS} (Hs : (crC zX3_readSum M0 t N cl T P F d (pqSum T one))) (hF : 3 ≤ F) {nt : pqS → pqS} (Hn : (crC zX3_readNot M0 t N cl T P F (d + 1) nt)) (hd : d < 5) : (crC zX3_readNot M0 t N cl T P (F + 1) d (pqNotS T nt one)) := by
  intro fr M s hf hS
  refine z_enter (L := [some (zr (11, 0)), some (zi d)]) rfl (by decide +kernel) (Nat.le_of_ble_eq_true rfl) ?_
  refine z_al iX3_readNot_0 rfl ?_
  refine z_gf iX3_readNot_1 hS.1.1 rfl ?_
  refine z_co iX3_readNot_4 ?_
  refine z_icmp_ne iX3_readNot_6 (fun h1 => ?_) (fun h1 => ?_)
  · refine z_al iX3_readNot_34 rfl ?_
    refine z_il iX3_readNot_35 rfl ?_
    refine z_cv1v (fr' := fr - 1) iX3_readNot_36 zmX3_readSum hS.1.1 (Hs _ _ _ (by omega) hS) (by omega) (Nat.le_of_ble_eq_true rfl) (fun M1 hq => ?_)
    have hS := hq
    refine z_al iX3_readNot_39 rfl ?_
    refine z_co iX3_readNot_40 ?_
    refine z_cv1i (fr' := fr - 1) iX3_readNot_42 zmX3_accept hS.1.1 (cr_accept (by omega) hS hT (-60) (by decide) (by decide)) (by omega) (Nat.le_of_ble_eq_true rfl) (fun x M1 hq => ?_)
    obtain ⟨rfl, hS2⟩ := hq
    refine z_ib_eq iX3_readNot_45 (fun h2 => ?_) (fun h2 => ?_)
    · rw [if_neg h2] at hS2
      have hS := hS2
      refine z_al iX3_readNot_65 rfl ?_
      refine z_co iX3_readNot_66 ?_
      refine z_cv1i (fr' := fr - 1) iX3_readNot_68 zmX3_accept hS.1.1 (cr_accept (by omega) hS hT (-61) (by decide) (by decide)) (by omega) (Nat.le_of_ble_eq_true rfl) (fun x M1 hq => ?_)
      obtain ⟨rfl, hS2⟩ := hq
      refine z_ib_eq iX3_readNot_71 (fun h3 => ?_) (fun h3 => ?_)
      · rw [if_neg h3] at hS2
        have hS := hS2
        refine z_vret iX3_readNot_88 rfl ?_
        refine ⟨rfl, ?_⟩
        unfold pqNotS pqCmp pqCmp2
        rw [if_neg h1]
        first | (rw [if_pos h2]; exact hS) | (rw [if_neg h2, if_pos h3]; exact hS) | (rw [if_neg h2, if_neg h3]; exact hS)
      · rw [if_pos h3] at hS2
        have hS := hS2
        refine z_al iX3_readNot_74 rfl ?_
        refine z_il iX3_readNot_75 rfl ?_
        refine z_cv1v (fr' := fr - 1) iX3_readNot_76 zmX3_readSum hS.1.1 (Hs _ _ _ (by omega) hS) (by omega) (Nat.le_of_ble_eq_true rfl) (fun M1 hq => ?_)
        have hS := hq
        refine z_al iX3_readNot_79 rfl ?_
        refine z_gf iX3_readNot_80 hS.1.1 rfl ?_
        refine z_co iX3_readNot_83 ?_
        refine z_cv1v (fr' := fr - 1) iX3_readNot_85 zmX8_add hS.1.2.1 (cr_add (by omega) hS _) (by omega) (Nat.le_of_ble_eq_true rfl) (fun M1 hq => ?_)
        have hS := hq
        refine z_vret iX3_readNot_88 rfl ?_
        refine ⟨rfl, ?_⟩
        unfold pqNotS pqCmp pqCmp2
        rw [if_neg h1]
        first | (rw [if_pos h2]; exact hS) | (rw [if_neg h2, if_pos h3]; exact hS) | (rw [if_neg h2, if_neg h3]; exact hS)
    · rw [if_pos h2] at hS2
      have hS := hS2
      refine z_al iX3_readNot_48 rfl ?_
      refine z_il iX3_readNot_49 rfl ?_
      refine z_cv1v (fr' := fr - 1) iX3_readNot_50 zmX3_readSum hS.1.1 (Hs _ _ _ (by omega) hS) (by omega) (Nat.le_of_ble_eq_true rfl) (fun M1 hq => ?_)
      have hS := hq
      refine z_al iX3_readNot_53 rfl ?_
      refine z_gf iX3_readNot_54 hS.1.1 rfl ?_
      refine z_co iX3_readNot_57 ?_
      refine z_cv1v (fr' := fr - 1) iX3_readNot_59 zmX8_add hS.1.2.1 (cr_add (by omega) hS _) (by omega) (Nat.le_of_ble_eq_true rfl) (fun M1 hq => ?_)
      have hS := hq
      refine z_goto iX3_readNot_62 ?_
      refine z_vret iX3_readNot_88 rfl ?_
      refine ⟨rfl, ?_⟩
      unfold pqNotS pqCmp pqCmp2
      rw [if_neg h1]
      first | (rw [if_pos h2]; exact hS) | (rw [if_neg h2, if_pos h3]; exact hS) | (rw [if_neg h2, if_neg h3]; exact hS)
  · refine z_al iX3_readNot_9 rfl ?_
    refine z_il iX3_readNot_10 rfl ?_
    refine z_cv1i (fr' := fr - 1) iX3_readNot_11 zmX3_mayOpen hS.1.1 (cr_mayOpen (by omega) hS hT _ h1 (by decide) (by decide)) (by omega) (Nat.le_of_ble_eq_true rfl) (fun x M1 hq => ?_)
    obtain ⟨rfl, hS2⟩ := hq
    refine z_ib_eq iX3_readNot_14 (fun h4 => ?_) (fun h4 => ?_)
    · exact absurd hd (by assumption)
    · rw [if_pos hd] at hS2
      have hS := hS2
      refine z_al iX3_readNot_17 rfl ?_
      refine z_il iX3_readNot_18 rfl ?_
      refine z_co iX3_readNot_19 ?_
      refine z_iadd iX3_readNot_20 ?_
      refine z_cv1v (fr' := fr - 1) iX3_readNot_21 zmX3_readNot hS.1.1 (Hn _ _ _ (by omega) hS) (by omega) (Nat.le_of_ble_eq_true rfl) (fun M1 hq => ?_)
      have hS := hq
      refine z_al iX3_readNot_24 rfl ?_
      refine z_gf iX3_readNot_25 hS.1.1 rfl ?_
      refine z_co iX3_readNot_28 ?_
      refine z_cv1v (fr' := fr - 1) iX3_readNot_30 zmX8_add hS.1.2.1 (cr_add (by omega) hS _) (by omega) (Nat.le_of_ble_eq_true rfl) (fun M1 hq => ?_)
      have hS := hq
      refine z_vret iX3_readNot_33 rfl ?_
      refine ⟨rfl, ?_⟩
      unfold pqNotS
      rw [if_pos h1]
      exact hS
set_option maxRecDepth 20000 in
set_option maxHeartbeats 4000000 in
theorem cr_one0 {M0 : zM} {t nn N : Nat} {cl : Int32} {T : Nat → Int32} {P : Nat → Nat} (hT : tpS M0 T P nn N) {d : Int32} {F : Nat} (hF : 4 ≤ F) (hd : ¬ d < 5) : (crC zX3_readOne M0 t N cl T P F d (pqOne0 T)) := by
  intro fr M s hf hS
  refine z_enter (L := [some (zr (11, 0)), some (zi d)]) rfl (by decide +kernel) (Nat.le_of_ble_eq_true rfl) ?_
  refine z_al iX3_readOne_0 rfl ?_
  refine z_gf iX3_readOne_1 hS.1.1 rfl ?_
  refine z_co iX3_readOne_4 ?_
  refine z_icmp_lt iX3_readOne_6 (fun h1 => ?_) (fun h1 => ?_)
  · have g1 : ¬ -6 ≤ pqTk T s := by
      simp only [zi_le, zi_lt, Int32.reduceToInt] at h1 ⊢
      omega
    refine z_al iX3_readOne_27 rfl ?_
    refine z_gf iX3_readOne_28 hS.1.1 rfl ?_
    refine z_co iX3_readOne_31 ?_
    refine z_icmp_ne iX3_readOne_33 (fun h2 => ?_) (fun h2 => ?_)
    · refine z_al iX3_readOne_63 rfl ?_
      refine z_gf iX3_readOne_64 hS.1.1 rfl ?_
      refine z_co iX3_readOne_67 ?_
      refine z_icmp_ne iX3_readOne_69 (fun h3 => ?_) (fun h3 => ?_)
      · refine z_al iX3_readOne_96 rfl ?_
        refine z_cv0v (fr' := fr - 1) iX3_readOne_97 zmX3_refuse hS.1.1 (cr_refuse (by omega) hS.1 hS.2 hT) (by omega) (Nat.le_of_ble_eq_true rfl) (fun M1 hq => ?_)
        have hS := (⟨hq, hS.2⟩ : crS M0 M1 t N cl T P _)
        refine z_vret iX3_readOne_100 rfl ?_
        refine ⟨rfl, ?_⟩
        unfold pqOne0
        first | (rw [if_pos g1]; exact hS) | (rw [if_neg g1]; exact hS)
      · refine z_al iX3_readOne_72 rfl ?_
        refine z_il iX3_readOne_73 rfl ?_
        refine z_cv1i (fr' := fr - 1) iX3_readOne_74 zmX3_mayOpen hS.1.1 (cr_mayOpen (by omega) hS hT _ h3 (by decide) (by decide)) (by omega) (Nat.le_of_ble_eq_true rfl) (fun x M1 hq => ?_)
        obtain ⟨rfl, hS2⟩ := hq
        refine z_ib_eq iX3_readOne_77 (fun h4 => ?_) (fun h4 => ?_)
        · rw [if_neg hd] at hS2
          have hS := hS2
          refine z_vret iX3_readOne_100 rfl ?_
          refine ⟨rfl, ?_⟩
          unfold pqOne0
          first | (rw [if_pos g1]; exact hS) | (rw [if_neg g1]; exact hS)
        · exact absurd (by assumption) hd
    · refine z_al iX3_readOne_36 rfl ?_
      refine z_il iX3_readOne_37 rfl ?_
      refine z_cv1i (fr' := fr - 1) iX3_readOne_38 zmX3_mayOpen hS.1.1 (cr_mayOpen (by omega) hS hT _ h2 (by decide) (by decide)) (by omega) (Nat.le_of_ble_eq_true rfl) (fun x M1 hq => ?_)
      obtain ⟨rfl, hS2⟩ := hq
      refine z_ib_eq iX3_readOne_41 (fun h5 => ?_) (fun h5 => ?_)
      · rw [if_neg hd] at hS2
        have hS := hS2
        refine z_vret iX3_readOne_100 rfl ?_
        refine ⟨rfl, ?_⟩
        unfold pqOne0
        first | (rw [if_pos g1]; exact hS) | (rw [if_neg g1]; exact hS)
      · exact absurd (by assumption) hd
  · have g1 : -6 ≤ pqTk T s := by
      simp only [zi_le, zi_lt, Int32.reduceToInt] at h1 ⊢
      omega
    have g2 : pqTk T s ≠ -21 := fun q => by rw [q] at g1; exact absurd g1 (by decide)
    have g3 : pqTk T s ≠ -20 := fun q => by rw [q] at g1; exact absurd g1 (by decide)
    refine z_al iX3_readOne_9 rfl ?_
    refine z_gf iX3_readOne_10 hS.1.1 rfl ?_
    refine z_al iX3_readOne_13 rfl ?_
    refine z_gf iX3_readOne_14 hS.1.1 rfl ?_
    refine z_cv1v (fr' := fr - 1) iX3_readOne_17 zmX8_add hS.1.2.1 (cr_add (by omega) hS _) (by omega) (Nat.le_of_ble_eq_true rfl) (fun M1 hq => ?_)
    have hS := hq
    refine z_al iX3_readOne_20 rfl ?_
    refine z_cv0v (fr' := fr - 1) iX3_readOne_21 zmX3_advance hS.1.1 (cr_advance (by omega) hS.1 hS.2 hT (show s.2.1 = false from (pqTk_b rfl g2).1)) (by omega) (Nat.le_of_ble_eq_true rfl) (fun M1 hq => ?_)
    have hS := (⟨hq, tpS.lt hT (s := s) rfl g2 g3⟩ : crS M0 M1 t N cl T P (pqAdv (pqAdd (pqTk T s) s)))
    refine z_goto iX3_readOne_24 ?_
    refine z_vret iX3_readOne_100 rfl ?_
    refine ⟨rfl, ?_⟩
    unfold pqOne0
    first | (rw [if_pos g1]; exact hS) | (rw [if_neg g1]; exact hS)
set_option maxRecDepth 20000 in
set_option maxHeartbeats 4000000 in
theorem cr_oneS {M0 : zM} {t nn N : Nat} {cl : Int32} {T : Nat → Int32} {P : Nat → Nat} (hT : tpS M0 T P nn N) {d : Int32} {F : Nat} {one : pqS → pqS} (hF : 4 ≤ F) (Ho : (crC zX3_readOne M0 t N cl T P F (d + 1) one)) {eith : pqS → pqS} (He : (crC zX3_readEither M0 t N cl T P F (d + 1) eith)) (hd : d < 5) : (crC zX3_readOne M0 t N cl T P (F + 1) d (pqOneS T one eith)) := by
  intro fr M s hf hS
  refine z_enter (L := [some (zr (11, 0)), some (zi d)]) rfl (by decide +kernel) (Nat.le_of_ble_eq_true rfl) ?_
  refine z_al iX3_readOne_0 rfl ?_
  refine z_gf iX3_readOne_1 hS.1.1 rfl ?_
  refine z_co iX3_readOne_4 ?_
  refine z_icmp_lt iX3_readOne_6 (fun h1 => ?_) (fun h1 => ?_)
  · have g1 : ¬ -6 ≤ pqTk T s := by
      simp only [zi_le, zi_lt, Int32.reduceToInt] at h1 ⊢
      omega
    refine z_al iX3_readOne_27 rfl ?_
    refine z_gf iX3_readOne_28 hS.1.1 rfl ?_
    refine z_co iX3_readOne_31 ?_
    refine z_icmp_ne iX3_readOne_33 (fun h2 => ?_) (fun h2 => ?_)
    · refine z_al iX3_readOne_63 rfl ?_
      refine z_gf iX3_readOne_64 hS.1.1 rfl ?_
      refine z_co iX3_readOne_67 ?_
      refine z_icmp_ne iX3_readOne_69 (fun h3 => ?_) (fun h3 => ?_)
      · refine z_al iX3_readOne_96 rfl ?_
        refine z_cv0v (fr' := fr - 1) iX3_readOne_97 zmX3_refuse hS.1.1 (cr_refuse (by omega) hS.1 hS.2 hT) (by omega) (Nat.le_of_ble_eq_true rfl) (fun M1 hq => ?_)
        have hS := (⟨hq, hS.2⟩ : crS M0 M1 t N cl T P _)
        refine z_vret iX3_readOne_100 rfl ?_
        refine ⟨rfl, ?_⟩
        unfold pqOneS
        first | (rw [if_pos g1]; exact hS) | (rw [if_neg g1, if_pos h2]; exact hS) | (rw [if_neg g1, if_neg h2, if_pos h3]; exact hS) | (rw [if_neg g1, if_neg h2, if_neg h3]; exact hS)
      · refine z_al iX3_readOne_72 rfl ?_
        refine z_il iX3_readOne_73 rfl ?_
        refine z_cv1i (fr' := fr - 1) iX3_readOne_74 zmX3_mayOpen hS.1.1 (cr_mayOpen (by omega) hS hT _ h3 (by decide) (by decide)) (by omega) (Nat.le_of_ble_eq_true rfl) (fun x M1 hq => ?_)
        obtain ⟨rfl, hS2⟩ := hq
        refine z_ib_eq iX3_readOne_77 (fun h4 => ?_) (fun h4 => ?_)
        · exact absurd hd (by assumption)
        · rw [if_pos hd] at hS2
          have hS := hS2
          refine z_al iX3_readOne_80 rfl ?_
          refine z_il iX3_readOne_81 rfl ?_
          refine z_co iX3_readOne_82 ?_
          refine z_iadd iX3_readOne_83 ?_
          refine z_cv1v (fr' := fr - 1) iX3_readOne_84 zmX3_readEither hS.1.1 (He _ _ _ (by omega) hS) (by omega) (Nat.le_of_ble_eq_true rfl) (fun M1 hq => ?_)
          have hS := hq
          refine z_al iX3_readOne_87 rfl ?_
          refine z_co iX3_readOne_88 ?_
          refine z_cv1v (fr' := fr - 1) iX3_readOne_90 zmX3_expect hS.1.1 (cr_expectW (by omega) hS hT (-41) (by decide) (by decide)) (by omega) (Nat.le_of_ble_eq_true rfl) (fun M1 hq => ?_)
          have hS := hq
          refine z_goto iX3_readOne_93 ?_
          refine z_vret iX3_readOne_100 rfl ?_
          refine ⟨rfl, ?_⟩
          unfold pqOneS
          first | (rw [if_pos g1]; exact hS) | (rw [if_neg g1, if_pos h2]; exact hS) | (rw [if_neg g1, if_neg h2, if_pos h3]; exact hS) | (rw [if_neg g1, if_neg h2, if_neg h3]; exact hS)
    · refine z_al iX3_readOne_36 rfl ?_
      refine z_il iX3_readOne_37 rfl ?_
      refine z_cv1i (fr' := fr - 1) iX3_readOne_38 zmX3_mayOpen hS.1.1 (cr_mayOpen (by omega) hS hT _ h2 (by decide) (by decide)) (by omega) (Nat.le_of_ble_eq_true rfl) (fun x M1 hq => ?_)
      obtain ⟨rfl, hS2⟩ := hq
      refine z_ib_eq iX3_readOne_41 (fun h5 => ?_) (fun h5 => ?_)
      · exact absurd hd (by assumption)
      · rw [if_pos hd] at hS2
        have hS := hS2
        refine z_al iX3_readOne_44 rfl ?_
        refine z_il iX3_readOne_45 rfl ?_
        refine z_co iX3_readOne_46 ?_
        refine z_iadd iX3_readOne_47 ?_
        refine z_cv1v (fr' := fr - 1) iX3_readOne_48 zmX3_readOne hS.1.1 (Ho _ _ _ (by omega) hS) (by omega) (Nat.le_of_ble_eq_true rfl) (fun M1 hq => ?_)
        have hS := hq
        refine z_al iX3_readOne_51 rfl ?_
        refine z_gf iX3_readOne_52 hS.1.1 rfl ?_
        refine z_co iX3_readOne_55 ?_
        refine z_cv1v (fr' := fr - 1) iX3_readOne_57 zmX8_add hS.1.2.1 (cr_add (by omega) hS _) (by omega) (Nat.le_of_ble_eq_true rfl) (fun M1 hq => ?_)
        have hS := hq
        refine z_goto iX3_readOne_60 ?_
        refine z_vret iX3_readOne_100 rfl ?_
        refine ⟨rfl, ?_⟩
        unfold pqOneS
        first | (rw [if_pos g1]; exact hS) | (rw [if_neg g1, if_pos h2]; exact hS) | (rw [if_neg g1, if_neg h2, if_pos h3]; exact hS) | (rw [if_neg g1, if_neg h2, if_neg h3]; exact hS)
  · have g1 : -6 ≤ pqTk T s := by
      simp only [zi_le, zi_lt, Int32.reduceToInt] at h1 ⊢
      omega
    have g2 : pqTk T s ≠ -21 := fun q => by rw [q] at g1; exact absurd g1 (by decide)
    have g3 : pqTk T s ≠ -20 := fun q => by rw [q] at g1; exact absurd g1 (by decide)
    refine z_al iX3_readOne_9 rfl ?_
    refine z_gf iX3_readOne_10 hS.1.1 rfl ?_
    refine z_al iX3_readOne_13 rfl ?_
    refine z_gf iX3_readOne_14 hS.1.1 rfl ?_
    refine z_cv1v (fr' := fr - 1) iX3_readOne_17 zmX8_add hS.1.2.1 (cr_add (by omega) hS _) (by omega) (Nat.le_of_ble_eq_true rfl) (fun M1 hq => ?_)
    have hS := hq
    refine z_al iX3_readOne_20 rfl ?_
    refine z_cv0v (fr' := fr - 1) iX3_readOne_21 zmX3_advance hS.1.1 (cr_advance (by omega) hS.1 hS.2 hT (show s.2.1 = false from (pqTk_b rfl g2).1)) (by omega) (Nat.le_of_ble_eq_true rfl) (fun M1 hq => ?_)
    have hS := (⟨hq, tpS.lt hT (s := s) rfl g2 g3⟩ : crS M0 M1 t N cl T P (pqAdv (pqAdd (pqTk T s) s)))
    refine z_goto iX3_readOne_24 ?_
    refine z_vret iX3_readOne_100 rfl ?_
    refine ⟨rfl, ?_⟩
    unfold pqOneS
    first | (rw [if_pos g1]; exact hS) | (rw [if_neg g1, if_pos h2]; exact hS) | (rw [if_neg g1, if_neg h2, if_pos h3]; exact hS) | (rw [if_neg g1, if_neg h2, if_neg h3]; exact hS)
theorem crC.up {Y : zY} {M0 : zM} {t N : Nat} {cl : Int32} {T : Nat → Int32} {P : Nat → Nat} {F F' : Nat} {d : Int32} {X : pqS → pqS} (h : crC Y M0 t N cl T P F d X) (hF : F ≤ F') : crC Y M0 t N cl T P F' d X := fun fr M s h1 h2 => h fr M s (Nat.le_trans hF h1) h2
theorem cr_lv {M0 : zM} {t nn N : Nat} {cl : Int32} {T : Nat → Int32} {P : Nat → Nat} (hT : tpS M0 T P nn N) : ∀ (k : Nat) (d : Int32), k ≤ 5 → d.toInt + k = 5 → crC zX3_readOne M0 t N cl T P (6 * k + 4) d (pqLv T k).1 ∧ crC zX3_readNot M0 t N cl T P (6 * k + 7) d (pqLv T k).2
  | 0, d, _, hd => by
    have hd' : ¬ d < 5 := by rw [zi_lt]; simp only [Int32.reduceToInt]; omega
    have h1 := cr_one0 (d := d) (t := t) (cl := cl) hT (F := 4) (by omega) hd'
    exact ⟨h1, cr_not0 hT (cr_readSum hT (cr_readTerm hT h1 (by omega)) (by omega)) (by omega) hd'⟩
  | k + 1, d, hk, hd => by
    have hd' : d < 5 := by rw [zi_lt]; simp only [Int32.reduceToInt]; omega
    have e1 : (d + 1).toInt = d.toInt + 1 := zadd (by simp only [Int32.reduceToInt]; omega) (by simp only [Int32.reduceToInt]; omega)
    obtain ⟨i1, i2⟩ := cr_lv hT (t := t) (cl := cl) k (d + 1) (by omega) (by omega)
    have i3 := cr_readEither hT (cr_readBoth hT i2 (by omega)) (by omega)
    have h1 : crC zX3_readOne M0 t N cl T P (6 * (k + 1) + 4) d (pqOneS T (pqLv T k).1 (pqEith T (pqLv T k).2)) := cr_oneS hT (F := 6 * k + 9) (by omega) (i1.up (by omega)) i3 hd'
    exact ⟨h1, cr_notS hT (F := 6 * (k + 1) + 6) (cr_readSum hT (cr_readTerm hT h1 (by omega)) (by omega)) (by omega) (i2.up (by omega)) hd'⟩
theorem cr_either {M0 : zM} {t nn N : Nat} {cl : Int32} {T : Nat → Int32} {P : Nat → Nat} (hT : tpS M0 T P nn N) : crC zX3_readEither M0 t N cl T P 40 0 (pqEith T (pqLv T 5).2) :=
  (cr_readEither hT (cr_readBoth hT (cr_lv hT 5 0 (by decide) (by decide)).2 (by omega)) (by omega)).up (by omega)
