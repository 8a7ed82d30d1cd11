def zCu (I : zSI) (A : zSA) (L : zSL) (m : Int32) (S : Nat) (p : Int32) : zRes := sp_cut I A L m (A 29 (40 * S + zN p)) (A 29 (40 * S + (zN p + 1))) (A 29 (40 * S + (zN p + 2)))
def cuL (m : Int32) (S : Nat) (I : zSI) : Nat → Int32 → Int32 → zSA → zSL → zRes
  | 0, _, d, A, L => (d, I, A, L)
  | n + 1, p, d, A, L => if ¬ (0 ≤ p.toInt ∧ p.toInt + 2 < (A 28 S).toInt) then (-12, I, A, L) else cuL m S I n (p + 3) (if (zCu I A L m S p).1 < 0 then d else d + 1) (zCu I A L m S p).2.2.1 (zCu I A L m S p).2.2.2
theorem cuL_s {I : zSI} {A : zSA} {L : zSL} {m p d : Int32} {S n : Nat} (h : 0 ≤ p.toInt ∧ p.toInt + 2 < (A 28 S).toInt) : cuL m S I (n + 1) p d A L = cuL m S I n (p + 3) (if (zCu I A L m S p).1 < 0 then d else d + 1) (zCu I A L m S p).2.2.1 (zCu I A L m S p).2.2.2 := if_neg (fun q => q h)
theorem cuL_n {I : zSI} {A : zSA} {L : zSL} {m p d : Int32} {S n : Nat} (h : ¬ (0 ≤ p.toInt ∧ p.toInt + 2 < (A 28 S).toInt)) : cuL m S I (n + 1) p d A L = (-12, I, A, L) := if_pos h
def sp_cuts (I : zSI) (A : zSA) (L : zSL) (m s sort fm n : Int32) : zRes := if ¬ zBw m 0 (I 8 - 1) ∨ ¬ zBw s 0 3 ∨ ¬ zBw sort 0 2 ∨ ¬ zBw n 0 13 then (-2, I, A, L) else if A 26 (zN s) = 0 then (-11, I, A, L) else if ¬ A 27 (zN s) = sort then (-13, I, A, L) else cuL m (zN s) I (zN n) fm 0 A L
theorem zCu_row {I : zSI} {A : zSA} {L : zSL} {m p : Int32} {S k : Nat} (h : 12 ≤ k) : (zCu I A L m S p).2.2.1 k = A k ∧ (zCu I A L m S p).2.1 = I := sp_cut_row h
theorem zCu_V {I : zSI} {A : zSA} {L : zSL} (hV : Val I A L) {m p : Int32} {S : Nat} : Val I (zCu I A L m S p).2.2.1 (zCu I A L m S p).2.2.2 := by
  have h := hV.cut m (A 29 (40 * S + zN p)) (A 29 (40 * S + (zN p + 1))) (A 29 (40 * S + (zN p + 2)))
  rw [(sp_cut_row (Nat.le_refl 12)).2] at h
  exact h
theorem zp_1 {p : Int32} {k : Nat} {x : Int32} (hx : x.toInt = (k : Int)) (hk : k < 10) (h : 0 ≤ p.toInt ∧ p.toInt < 40) : (p + x).toInt = p.toInt + k ∧ zN (p + x) = zN p + k := by
  have e1 : (p + x).toInt = p.toInt + x.toInt := zadd (by omega) (by omega)
  have e2 : zN (p + x) = (p + x).toInt.toNat := rfl
  have e3 : zN p = p.toInt.toNat := rfl
  omega
theorem Val.cu {I : zSI} {A : zSA} {L : zSL} (hV : Val I A L) {m : Int32} (v : Int32 × Int32 × Int32) : Val I (sp_cut I A L m v.1 v.2.1 v.2.2).2.2.1 (sp_cut I A L m v.1 v.2.1 v.2.2).2.2.2 := by
  have h := hV.cut m v.1 v.2.1 v.2.2
  rw [(sp_cut_row (Nat.le_refl 12)).2] at h
  exact h
set_option maxRecDepth 20000 in
set_option maxHeartbeats 4000000 in
theorem l10_cuts {JR : zJR} {fr : Nat} {M0 : zM} {I : zSI} {m fm nn : Int32} {S : Nat} (hf : 30 ≤ fr) (hS : S < 4) (hn0 : 0 ≤ nn.toInt) (hn13 : zN nn ≤ 13)  : ∀ (n i : Nat) (M : zM) (A : zSA) (L : zSL) (p d : Int32), i + n = zN nn → RepX TRc JR M I A L → Val I A L → A 26 S = 1 → (∀ a : zAd, (a.1 < 2 ∨ 40 ≤ a.1) → M a = M0 a) → zV zX10_cutBySheet fr 0 0 9 (zL [some (zr (2, 0)), some (zi m), some (zr (26, S)), some (zi fm), some (zi nn), some (zi d), some (zi p), some (zi (nI i))]) [] M (fun r M' => ∃ x, r = some (zi x) ∧ zEX TRc JR M0 x (cuL m S I n p d A L) M') := by
  intro n
  induction n with
  | zero =>
    intro i M A L p d hn hX hV h26 hfx
    have e13 : nn.toInt = (zN nn : Int) := zPn hn0
    refine z_il iX10_cutBySheet_9 rfl ?_
    refine z_il iX10_cutBySheet_11 rfl ?_
    refine z_icmp_ge iX10_cutBySheet_13 (fun h1 => ?_) (fun h1 => ?_)
    · refine z_il iX10_cutBySheet_81 rfl ?_
      refine z_iret iX10_cutBySheet_83 rfl ?_
      exact ⟨_, rfl, rfl, hfx, hX⟩
    · exfalso
      have e1 := nI_toInt (n := i) (by omega)
      simp only [zi_le, e13, e1] at h1
      omega
  | succ n ih =>
    intro i M A L p d hn hX hV h26 hfx
    have e13 : nn.toInt = (zN nn : Int) := zPn hn0
    refine z_il iX10_cutBySheet_9 rfl ?_
    refine z_il iX10_cutBySheet_11 rfl ?_
    refine z_icmp_ge iX10_cutBySheet_13 (fun h1 => ?_) (fun h1 => ?_)
    · exfalso
      have e1 := nI_toInt (n := i) (by omega)
      simp only [zi_le, e13, e1] at h1
      omega
    · have hsz : zRg (A 28 S) 0 40 := ((hV.2.2.2.2.2.2.1 S hS).2 h26).2
      obtain ⟨so, sz, fc, hsheet, hcells, hs1, -⟩ := hX.2.2.2.2.1 S hS
      obtain ⟨rfl, rfl, hs5⟩ := hs1 h26
      refine z_al iX10_cutBySheet_16 rfl ?_
      refine z_il iX10_cutBySheet_17 rfl ?_
      refine z_cv1i (fr' := fr - 1) iX10_cutBySheet_19 zmX5_has hsheet (c5_has hsz hsheet _) (by omega) (Nat.le_of_ble_eq_true rfl) (fun x M1 hq => ?_)
      obtain ⟨rfl, rfl⟩ := hq
      refine z_ib_eq iX10_cutBySheet_22 (fun h2 => ?_) (fun h2 => ?_)
      · refine z_co iX10_cutBySheet_36 ?_
        refine z_iret iX10_cutBySheet_38 rfl ?_
        refine ⟨_, rfl, ?_⟩
        rw [cuL_n (fun q => ?_)]
        · exact ⟨rfl, hfx, hX⟩
        · first
          | exact h2 ⟨q.1, by omega⟩
          | exact h3 ⟨by omega, by omega⟩
      · refine z_al iX10_cutBySheet_25 rfl ?_
        refine z_il iX10_cutBySheet_26 rfl ?_
        refine z_co iX10_cutBySheet_28 ?_
        refine z_iadd iX10_cutBySheet_29 ?_
        refine z_cv1i (fr' := fr - 1) iX10_cutBySheet_30 zmX5_has hsheet (c5_has hsz hsheet _) (by omega) (Nat.le_of_ble_eq_true rfl) (fun x M1 hq => ?_)
        obtain ⟨rfl, rfl⟩ := hq
        have p2 := zp_1 (x := 2) (k := 2) (by decide) (by decide) ⟨h2.1, (show p.toInt < 40 by have := h2.2; have := hsz.2; omega)⟩
        refine z_ib_ne iX10_cutBySheet_33 (fun h3 => ?_) (fun h3 => ?_)
        · have hk : 0 ≤ p.toInt ∧ p.toInt + 2 < (A 28 S).toInt := ⟨h2.1, by have := h3.2; omega⟩
          have p1 := zp_1 (x := 1) (k := 1) (by decide) (by decide) ⟨h2.1, (show p.toInt < 40 by have := h2.2; have := hsz.2; omega)⟩
          have p3 := zp_1 (x := 3) (k := 3) (by decide) (by decide) ⟨h2.1, (show p.toInt < 40 by have := h2.2; have := hsz.2; omega)⟩
          refine z_al iX10_cutBySheet_39 rfl ?_
          refine z_il iX10_cutBySheet_40 rfl ?_
          refine z_al iX10_cutBySheet_41 rfl ?_
          refine z_il iX10_cutBySheet_42 rfl ?_
          refine z_cv1i (fr' := fr - 1) iX10_cutBySheet_44 zmX5_get hsheet (c5_get hsz hsheet hcells (by omega) _) (by omega) (Nat.le_of_ble_eq_true rfl) (fun x M1 hq => ?_)
          obtain ⟨rfl, hx0⟩ := hq
          rw [if_pos (by constructor <;> omega), hs5 _ (by have := zPn h2.1; omega)] at hx0
          subst hx0
          refine z_al iX10_cutBySheet_47 rfl ?_
          refine z_il iX10_cutBySheet_48 rfl ?_
          refine z_co iX10_cutBySheet_50 ?_
          refine z_iadd iX10_cutBySheet_51 ?_
          refine z_cv1i (fr' := fr - 1) iX10_cutBySheet_52 zmX5_get hsheet (c5_get hsz hsheet hcells (by omega) _) (by omega) (Nat.le_of_ble_eq_true rfl) (fun x M1 hq => ?_)
          obtain ⟨rfl, hx1⟩ := hq
          rw [if_pos (by constructor <;> omega), hs5 _ (by have := zPn h2.1; omega), p1.2] at hx1
          subst hx1
          refine z_al iX10_cutBySheet_55 rfl ?_
          refine z_il iX10_cutBySheet_56 rfl ?_
          refine z_co iX10_cutBySheet_58 ?_
          refine z_iadd iX10_cutBySheet_59 ?_
          refine z_cv1i (fr' := fr - 1) iX10_cutBySheet_60 zmX5_get hsheet (c5_get hsz hsheet hcells (by omega) _) (by omega) (Nat.le_of_ble_eq_true rfl) (fun x M1 hq => ?_)
          obtain ⟨rfl, hx2⟩ := hq
          rw [if_pos (by constructor <;> omega), hs5 _ (by have := zPn h2.1; omega), p2.2] at hx2
          subst hx2
          refine z_cv4i (fr' := fr - 1) iX10_cutBySheet_63 zmX10_cut hX.1.1 (px_cut (by omega) hX hV _ _ _ _) (by omega) (Nat.le_of_ble_eq_true rfl) (fun x M1 hq => ?_)
          obtain ⟨hxe, hfx2, hX2⟩ := hq
          have hxe : x = (zCu I A L m S p).1 := hxe
          rw [hxe]
          have hX2 : RepX TRc JR M1 (zCu I A L m S p).2.1 (zCu I A L m S p).2.2.1 (zCu I A L m S p).2.2.2 := hX2
          rw [(zCu_row (Nat.le_refl 12)).2] at hX2
          have hV2 : Val I (zCu I A L m S p).2.2.1 (zCu I A L m S p).2.2.2 := zCu_V hV
          have h262 : (zCu I A L m S p).2.2.1 26 S = 1 := (congrFun (zCu_row (by decide)).1 S).trans h26
          have hfx3 : ∀ a : zAd, (a.1 < 2 ∨ 40 ≤ a.1) → M1 a = M0 a := fun a ha => (hfx2 a ha).trans (hfx a ha)
          refine z_if_lt iX10_cutBySheet_66 (fun h4 => ?_) (fun h4 => ?_)
          · refine z_in iX10_cutBySheet_72 rfl ?_
            refine z_in iX10_cutBySheet_75 rfl ?_
            refine z_goto iX10_cutBySheet_78 ?_
            have e : cuL m S I (n + 1) p d A L = cuL m S I n (p + 3) d (zCu I A L m S p).2.2.1 (zCu I A L m S p).2.2.2 := by
              rw [cuL_s hk, if_pos h4]
            rw [e]
            refine z_loc [some (zr (2, 0)), some (zi m), some (zr (26, S)), some (zi fm), some (zi nn), some (zi d), some (zi (p + 3)), some (zi (nI (i + 1)))] ⟨rfl, rfl, rfl, rfl, rfl, rfl, rfl, ?_, trivial⟩ (ih (i + 1) _ _ _ _ _ (by omega) hX2 hV2 h262 hfx3)
            show some (zi (nI i + 1)) = _
            rw [nI_1]
          · refine z_in iX10_cutBySheet_69 rfl ?_
            refine z_in iX10_cutBySheet_72 rfl ?_
            refine z_in iX10_cutBySheet_75 rfl ?_
            refine z_goto iX10_cutBySheet_78 ?_
            have e : cuL m S I (n + 1) p d A L = cuL m S I n (p + 3) (d + 1) (zCu I A L m S p).2.2.1 (zCu I A L m S p).2.2.2 := by
              rw [cuL_s hk, if_neg h4]
            rw [e]
            refine z_loc [some (zr (2, 0)), some (zi m), some (zr (26, S)), some (zi fm), some (zi nn), some (zi (d + 1)), some (zi (p + 3)), some (zi (nI (i + 1)))] ⟨rfl, rfl, rfl, rfl, rfl, rfl, rfl, ?_, trivial⟩ (ih (i + 1) _ _ _ _ _ (by omega) hX2 hV2 h262 hfx3)
            show some (zi (nI i + 1)) = _
            rw [nI_1]
        · refine z_co iX10_cutBySheet_36 ?_
          refine z_iret iX10_cutBySheet_38 rfl ?_
          refine ⟨_, rfl, ?_⟩
          rw [cuL_n (fun q => ?_)]
          · exact ⟨rfl, hfx, hX⟩
          · first
            | exact h2 ⟨q.1, by omega⟩
            | exact h3 ⟨by omega, by omega⟩
set_option maxRecDepth 20000 in
set_option maxHeartbeats 4000000 in
theorem c10_bySheet {JR : zJR} {fr : Nat} {M : zM} {I : zSI} {A : zSA} {L : zSL} (hf : 30 ≤ fr) (hX : RepX TRc JR M I A L) (hV : Val I A L) (m : Int32) {S : Nat} (hS : S < 4) (h26 : A 26 S = 1) (fm : Int32) {nn : Int32} (hn0 : 0 ≤ nn.toInt) (hn13 : zN nn ≤ 13) : zCi zX10_cutBySheet fr 0 0 [zr (2, 0), zi m, zr (26, S), zi fm, zi nn] M (fun x M' => zEX TRc JR M x (cuL m S I (zN nn) fm 0 A L) M') := by
  refine z_enter (L := [some (zr (2, 0)), some (zi m), some (zr (26, S)), some (zi fm), some (zi nn)]) rfl (by decide +kernel) (Nat.le_of_ble_eq_true rfl) ?_
  refine z_co iX10_cutBySheet_0 ?_
  refine z_is iX10_cutBySheet_1 ?_
  refine z_il iX10_cutBySheet_3 rfl ?_
  refine z_is iX10_cutBySheet_4 ?_
  refine z_co iX10_cutBySheet_6 ?_
  refine z_is iX10_cutBySheet_7 ?_
  refine z_loc [some (zr (2, 0)), some (zi m), some (zr (26, S)), some (zi fm), some (zi nn), some (zi 0), some (zi fm), some (zi (nI 0))] ⟨rfl, rfl, rfl, rfl, rfl, rfl, rfl, rfl, trivial⟩ ?_
  exact l10_cuts hf hS hn0 hn13 (zN nn) 0 _ _ _ _ _ (by omega) hX hV h26 (fun _ _ => rfl)
set_option maxRecDepth 20000 in
set_option maxHeartbeats 4000000 in
theorem px_cuts {JR : zJR} {fr : Nat} {M : zM} {I : zSI} {A : zSA} {L : zSL} (hf : 40 ≤ fr) (hX : RepX TRc JR M I A L) (hV : Val I A L) (m s sort fm n : Int32) : zCi zX10_cuts fr 0 0 [zr (2, 0), zi m, zi s, zi sort, zi fm, zi n] M (fun x M' => zEX TRc JR M x (sp_cuts I A L m s sort fm n) M') := by
  refine z_enter (L := [some (zr (2, 0)), some (zi m), some (zi s), some (zi sort), some (zi fm), some (zi n)]) rfl (by decide +kernel) (Nat.le_of_ble_eq_true rfl) ?_
  refine z_al iX10_cuts_0 rfl ?_
  refine z_il iX10_cuts_1 rfl ?_
  refine z_cv1a (fr' := fr - 1) iX10_cuts_2 zmX10_sheetOf hX.1.1 (c10_sheetOf (by omega) hX _) (by omega) (Nat.le_of_ble_eq_true rfl) (fun x M1 hq => ?_)
  obtain ⟨rfl, rfl⟩ := hq
  refine z_as iX10_cuts_5 ?_
  refine z_al iX10_cuts_7 rfl ?_
  refine z_il iX10_cuts_8 rfl ?_
  refine z_cv1a (fr' := fr - 1) iX10_cuts_9 zmX10_machineOf hX.1.1 (c10_machineOf (by omega) hX hV _) (by omega) (Nat.le_of_ble_eq_true rfl) (fun x M1 hq => ?_)
  obtain ⟨rfl, rfl⟩ := hq
  refine z_ifnull iX10_cuts_12 (fun h1 => ?_) (fun x1 h1 => ?_)
  · refine z_co iX10_cuts_40 ?_
    refine z_iret iX10_cuts_42 rfl ?_
    refine ⟨_, rfl, ?_⟩
    unfold sp_cuts
    have hc : ¬ zBw m 0 (I 8 - 1) ∨ ¬ zBw s 0 3 ∨ ¬ zBw sort 0 2 ∨ ¬ zBw n 0 13 := by
      first | exact Or.inl (xo_n h1) | exact Or.inr (Or.inl (xs_n h2)) | exact Or.inr (Or.inr (Or.inl h3)) | exact Or.inr (Or.inr (Or.inr h4))
    rw [if_pos hc]
    exact zEX.rd hX
  · obtain ⟨qh1, rfl⟩ := xo_s h1
    have hmach := (hX.2.2.2.1.1 _ (zIdx qh1 hV.1.2.2.2.2.2.1 (by decide)).2.1).1
    refine z_alo iX10_cuts_15 rfl ?_
    refine z_ifnull iX10_cuts_17 (fun h2 => ?_) (fun x2 h2 => ?_)
    · refine z_co iX10_cuts_40 ?_
      refine z_iret iX10_cuts_42 rfl ?_
      refine ⟨_, rfl, ?_⟩
      unfold sp_cuts
      have hc : ¬ zBw m 0 (I 8 - 1) ∨ ¬ zBw s 0 3 ∨ ¬ zBw sort 0 2 ∨ ¬ zBw n 0 13 := by
        first | exact Or.inl (xo_n h1) | exact Or.inr (Or.inl (xs_n h2)) | exact Or.inr (Or.inr (Or.inl h3)) | exact Or.inr (Or.inr (Or.inr h4))
      rw [if_pos hc]
      exact zEX.rd hX
    · rw [h2]
      obtain ⟨qs, rfl⟩ := xs_s h2
      obtain ⟨so, sz, fc, hsheet, hcells, hs1, hs0⟩ := hX.2.2.2.2.1 _ (zN3 qs)
      have v1 := hV.2.2.2.2.2.2.1 (zN s) (zN3 qs)
      refine z_il iX10_cuts_20 rfl ?_
      refine z_co iX10_cuts_21 ?_
      refine z_co iX10_cuts_22 ?_
      refine z_cs3i (fr' := fr - 1) iX10_cuts_23 zmX10_within (c10_within _ _ _) (by omega) (Nat.le_of_ble_eq_true rfl) (fun x M1 hq => ?_)
      obtain ⟨rfl, rfl⟩ := hq
      refine z_ib_eq iX10_cuts_26 (fun h3 => ?_) (fun h3 => ?_)
      · refine z_co iX10_cuts_40 ?_
        refine z_iret iX10_cuts_42 rfl ?_
        refine ⟨_, rfl, ?_⟩
        unfold sp_cuts
        have hc : ¬ zBw m 0 (I 8 - 1) ∨ ¬ zBw s 0 3 ∨ ¬ zBw sort 0 2 ∨ ¬ zBw n 0 13 := by
          first | exact Or.inl (xo_n h1) | exact Or.inr (Or.inl (xs_n h2)) | exact Or.inr (Or.inr (Or.inl h3)) | exact Or.inr (Or.inr (Or.inr h4))
        rw [if_pos hc]
        exact zEX.rd hX
      · refine z_il iX10_cuts_29 rfl ?_
        refine z_co iX10_cuts_31 ?_
        refine z_co iX10_cuts_32 ?_
        refine z_cs3i (fr' := fr - 1) iX10_cuts_34 zmX10_within (c10_within _ _ _) (by omega) (Nat.le_of_ble_eq_true rfl) (fun x M1 hq => ?_)
        obtain ⟨rfl, rfl⟩ := hq
        refine z_ib_ne iX10_cuts_37 (fun h4 => ?_) (fun h4 => ?_)
        · refine z_al iX10_cuts_43 rfl ?_
          refine z_gf iX10_cuts_45 hsheet rfl ?_
          refine z_co iX10_cuts_48 ?_
          refine z_icmp_ne iX10_cuts_49 (fun h5 => ?_) (fun h5 => ?_)
          · refine z_al iX10_cuts_55 rfl ?_
            refine z_gf iX10_cuts_57 hsheet rfl ?_
            refine z_il iX10_cuts_60 rfl ?_
            refine z_icmp_eq iX10_cuts_61 (fun h6 => ?_) (fun h6 => ?_)
            · refine z_al iX10_cuts_67 rfl ?_
              refine z_il iX10_cuts_68 rfl ?_
              refine z_al iX10_cuts_69 rfl ?_
              refine z_il iX10_cuts_71 rfl ?_
              refine z_il iX10_cuts_73 rfl ?_
              refine z_cv4i (fr' := fr - 1) iX10_cuts_75 zmX10_cutBySheet hX.1.1 (c10_bySheet (by omega) hX hV _ (zN3 qs) (v1.1.resolve_left (fun z => h5 (hs0 (by rw [z]; decide)).1)) _ (zi_le.mp h4.1) (by have := (zBn h4).2; exact Nat.le_of_lt_succ this)) (by omega) (Nat.le_of_ble_eq_true rfl) (fun x M1 hq => ?_)
              have hM := hq
              refine z_iret iX10_cuts_78 rfl ?_
              refine ⟨_, rfl, ?_⟩
              unfold sp_cuts
              rw [if_neg (fun q => q.elim (fun z => z qh1) (fun z => z.elim (fun z => z qs) (fun z => z.elim (fun z => z h3) (fun z => z h4))))]
              have h21 : A 26 (zN s) = 1 := v1.1.resolve_left (fun z => h5 (hs0 (by rw [z]; decide)).1)
              have h20 : ¬ A 26 (zN s) = 0 := by rw [h21]; decide
              have hso := (hs1 h21).1
              rw [if_neg h20]
              rw [if_neg (fun q : ¬ A 27 (zN s) = sort => q (by rw [← hso]; exact h6))]
              exact hM
            · refine z_co iX10_cuts_64 ?_
              refine z_iret iX10_cuts_66 rfl ?_
              refine ⟨_, rfl, ?_⟩
              unfold sp_cuts
              rw [if_neg (fun q => q.elim (fun z => z qh1) (fun z => z.elim (fun z => z qs) (fun z => z.elim (fun z => z h3) (fun z => z h4))))]
              have h21 : A 26 (zN s) = 1 := v1.1.resolve_left (fun z => h5 (hs0 (by rw [z]; decide)).1)
              have h20 : ¬ A 26 (zN s) = 0 := by rw [h21]; decide
              have hso := (hs1 h21).1
              rw [if_neg h20]
              rw [if_pos (by rw [← hso]; exact h6)]
              exact zEX.rd hX
          · refine z_co iX10_cuts_52 ?_
            refine z_iret iX10_cuts_54 rfl ?_
            refine ⟨_, rfl, ?_⟩
            unfold sp_cuts
            rw [if_neg (fun q => q.elim (fun z => z qh1) (fun z => z.elim (fun z => z qs) (fun z => z.elim (fun z => z h3) (fun z => z h4))))]
            have h20 : A 26 (zN s) = 0 := v1.1.resolve_right (fun z => by
              have z1 := (hs1 z).1
              have z2 := (v1.2 z).1.1
              rw [← z1, h5] at z2
              exact absurd z2 (by decide))
            rw [if_pos h20]
            exact zEX.rd hX
        · refine z_co iX10_cuts_40 ?_
          refine z_iret iX10_cuts_42 rfl ?_
          refine ⟨_, rfl, ?_⟩
          unfold sp_cuts
          have hc : ¬ zBw m 0 (I 8 - 1) ∨ ¬ zBw s 0 3 ∨ ¬ zBw sort 0 2 ∨ ¬ zBw n 0 13 := by
            first | exact Or.inl (xo_n h1) | exact Or.inr (Or.inl (xs_n h2)) | exact Or.inr (Or.inr (Or.inl h3)) | exact Or.inr (Or.inr (Or.inr h4))
          rw [if_pos hc]
          exact zEX.rd hX
