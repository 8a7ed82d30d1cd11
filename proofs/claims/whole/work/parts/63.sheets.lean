theorem zCl40 {s i : Int32} {S P : Nat} (hs : s.toInt = (S : Int)) (hS : S < 4) (hp : i.toInt = (P : Int)) (hP : P < 40) : (40 * s + i).toInt = ((40 * S + P : Nat) : Int) := by
  have e1 : (40 * s).toInt = 40 * s.toInt := zmul (by simp only [Int32.reduceToInt]; omega) (by simp only [Int32.reduceToInt]; omega)
  rw [zadd (by omega) (by omega)]
  omega
set_option maxRecDepth 20000 in
set_option maxHeartbeats 4000000 in
theorem pm_cell {fr : Nat} {M : zM} {I J : zSI} {A : zSA} {L : zSL} {K : Int64} (hf : 3 ≤ fr) (hR : RepM M I A L J K) (hV : Val I A L) (s : Int32) (i : Int32) (v : Int32) : zCi zX11_cell fr 0 0 [zr (40, 0), zi s, zi i, zi v] M (fun x M' => zEM M x (sp_cell I A L s i v) M') := by
  refine z_enter (L := [some (zr (40, 0)), some (zi s), some (zi i), some (zi v)]) rfl (by decide +kernel) (Nat.le_of_ble_eq_true rfl) ?_
  refine z_il iX11_cell_0 rfl ?_
  refine z_cs1i (fr' := fr - 1) iX11_cell_1 zmX11_isSheet (c11_isSheet (by omega) _) (by omega) (Nat.le_of_ble_eq_true rfl) (fun x M1 hq => ?_)
  obtain ⟨rfl, rfl⟩ := hq
  refine z_ib_ne iX11_cell_4 (fun h1 => ?_) (fun h1 => ?_)
  · refine z_al iX11_cell_10 rfl ?_
    refine z_gf iX11_cell_11 hR.1 rfl ?_
    refine z_il iX11_cell_14 rfl ?_
    refine z_zald iX11_cell_15 (hR.2.1 26 (by decide)) (zBn h1).1 (zN3 h1) ?_
    refine z_if_ne iX11_cell_16 (fun h2 => ?_) (fun h2 => ?_)
    · refine z_il iX11_cell_22 rfl ?_
      refine z_co iX11_cell_23 ?_
      refine z_al iX11_cell_24 rfl ?_
      refine z_gf iX11_cell_25 hR.1 rfl ?_
      refine z_il iX11_cell_28 rfl ?_
      refine z_iald iX11_cell_29 (hR.2.1 28 (by decide)) (zBn h1).1 (zN3 h1) ?_
      refine z_co iX11_cell_30 ?_
      refine z_isub iX11_cell_31 ?_
      refine z_cs3i (fr' := fr - 1) iX11_cell_32 zmX11_in (c11_in _ _ _) (by omega) (Nat.le_of_ble_eq_true rfl) (fun x M1 hq => ?_)
      obtain ⟨rfl, rfl⟩ := hq
      refine z_ib_ne iX11_cell_35 (fun h3 => ?_) (fun h3 => ?_)
      · refine z_al iX11_cell_41 rfl ?_
        refine z_gf iX11_cell_42 hR.1 rfl ?_
        refine z_co iX11_cell_45 ?_
        refine z_il iX11_cell_47 rfl ?_
        refine z_imul iX11_cell_48 ?_
        refine z_il iX11_cell_49 rfl ?_
        refine z_iadd iX11_cell_50 ?_
        refine z_al iX11_cell_51 rfl ?_
        refine z_gf iX11_cell_52 hR.1 rfl ?_
        refine z_il iX11_cell_55 rfl ?_
        refine z_iald iX11_cell_56 (hR.2.1 27 (by decide)) (zBn h1).1 (zN3 h1) ?_
        refine z_if_ne iX11_cell_57 (fun h4 => ?_) (fun h4 => ?_)
        · refine z_al iX11_cell_65 rfl ?_
          refine z_gf iX11_cell_66 hR.1 rfl ?_
          refine z_il iX11_cell_69 rfl ?_
          refine z_iald iX11_cell_70 (hR.2.1 27 (by decide)) (zBn h1).1 (zN3 h1) ?_
          refine z_co iX11_cell_71 ?_
          refine z_icmp_ne iX11_cell_72 (fun h5 => ?_) (fun h5 => ?_)
          · refine z_il iX11_cell_80 rfl ?_
            refine z_iast iX11_cell_81 (hR.2.1 29 (by decide)) (show 2 ≤ 41 by decide) (zCl40 (zBn h1).1 (zN3 h1) (show i.toInt = (zN i : Int) by have v1 := (hV.2.2.2.2.2.2.1 (zN s) (zN3 h1)); have v2 := v1.2 (v1.1.resolve_left h2); have v3 := (zBs v2.2).mp h3; exact zPn v3.1) (show zN i < 40 by have v1 := (hV.2.2.2.2.2.2.1 (zN s) (zN3 h1)); have v2 := v1.2 (v1.1.resolve_left h2); have v3 := (zBs v2.2).mp h3; have v4 := v2.2.2; have v5 := zPn v3.1; omega)) (show 40 * zN s + zN i < 160 by have a1 := zN3 h1; have a2 := (show zN i < 40 by have v1 := (hV.2.2.2.2.2.2.1 (zN s) (zN3 h1)); have v2 := v1.2 (v1.1.resolve_left h2); have v3 := (zBs v2.2).mp h3; have v4 := v2.2.2; have v5 := zPn v3.1; omega); omega) ?_
            refine z_co iX11_cell_82 ?_
            refine z_iret iX11_cell_83 rfl ?_
            refine ⟨_, rfl, ?_⟩
            unfold sp_cell
            rw [if_neg (fun q => q h1), if_neg h2, if_neg (fun q => q h3)]
            refine ⟨rfl, zfr zfr_nil (by decide), _, J, K, fun _ _ => rfl, ?_⟩
            have hR2 := hR.arr 29 (zup (A 29) (40 * zN s + zN i) (zTo (A 27 (zN s)) v))
            first | (rw [zTo0 h4] at hR2 ⊢; exact hR2) | (rw [zTo1 h4 h5] at hR2 ⊢; exact hR2) | (rw [zTo2 h4 h5] at hR2 ⊢; exact hR2)
          · refine z_il iX11_cell_75 rfl ?_
            refine z_i2s iX11_cell_76 ?_
            refine z_goto iX11_cell_77 ?_
            refine z_iast iX11_cell_81 (hR.2.1 29 (by decide)) (show 2 ≤ 41 by decide) (zCl40 (zBn h1).1 (zN3 h1) (show i.toInt = (zN i : Int) by have v1 := (hV.2.2.2.2.2.2.1 (zN s) (zN3 h1)); have v2 := v1.2 (v1.1.resolve_left h2); have v3 := (zBs v2.2).mp h3; exact zPn v3.1) (show zN i < 40 by have v1 := (hV.2.2.2.2.2.2.1 (zN s) (zN3 h1)); have v2 := v1.2 (v1.1.resolve_left h2); have v3 := (zBs v2.2).mp h3; have v4 := v2.2.2; have v5 := zPn v3.1; omega)) (show 40 * zN s + zN i < 160 by have a1 := zN3 h1; have a2 := (show zN i < 40 by have v1 := (hV.2.2.2.2.2.2.1 (zN s) (zN3 h1)); have v2 := v1.2 (v1.1.resolve_left h2); have v3 := (zBs v2.2).mp h3; have v4 := v2.2.2; have v5 := zPn v3.1; omega); omega) ?_
            refine z_co iX11_cell_82 ?_
            refine z_iret iX11_cell_83 rfl ?_
            refine ⟨_, rfl, ?_⟩
            unfold sp_cell
            rw [if_neg (fun q => q h1), if_neg h2, if_neg (fun q => q h3)]
            refine ⟨rfl, zfr zfr_nil (by decide), _, J, K, fun _ _ => rfl, ?_⟩
            have hR2 := hR.arr 29 (zup (A 29) (40 * zN s + zN i) (zTo (A 27 (zN s)) v))
            first | (rw [zTo0 h4] at hR2 ⊢; exact hR2) | (rw [zTo1 h4 h5] at hR2 ⊢; exact hR2) | (rw [zTo2 h4 h5] at hR2 ⊢; exact hR2)
        · refine z_il iX11_cell_60 rfl ?_
          refine z_i2b iX11_cell_61 ?_
          refine z_goto iX11_cell_62 ?_
          refine z_iast iX11_cell_81 (hR.2.1 29 (by decide)) (show 2 ≤ 41 by decide) (zCl40 (zBn h1).1 (zN3 h1) (show i.toInt = (zN i : Int) by have v1 := (hV.2.2.2.2.2.2.1 (zN s) (zN3 h1)); have v2 := v1.2 (v1.1.resolve_left h2); have v3 := (zBs v2.2).mp h3; exact zPn v3.1) (show zN i < 40 by have v1 := (hV.2.2.2.2.2.2.1 (zN s) (zN3 h1)); have v2 := v1.2 (v1.1.resolve_left h2); have v3 := (zBs v2.2).mp h3; have v4 := v2.2.2; have v5 := zPn v3.1; omega)) (show 40 * zN s + zN i < 160 by have a1 := zN3 h1; have a2 := (show zN i < 40 by have v1 := (hV.2.2.2.2.2.2.1 (zN s) (zN3 h1)); have v2 := v1.2 (v1.1.resolve_left h2); have v3 := (zBs v2.2).mp h3; have v4 := v2.2.2; have v5 := zPn v3.1; omega); omega) ?_
          refine z_co iX11_cell_82 ?_
          refine z_iret iX11_cell_83 rfl ?_
          refine ⟨_, rfl, ?_⟩
          unfold sp_cell
          rw [if_neg (fun q => q h1), if_neg h2, if_neg (fun q => q h3)]
          refine ⟨rfl, zfr zfr_nil (by decide), _, J, K, fun _ _ => rfl, ?_⟩
          have hR2 := hR.arr 29 (zup (A 29) (40 * zN s + zN i) (zTo (A 27 (zN s)) v))
          first | (rw [zTo0 h4] at hR2 ⊢; exact hR2) | (rw [zTo1 h4 h5] at hR2 ⊢; exact hR2) | (rw [zTo2 h4 h5] at hR2 ⊢; exact hR2)
      · refine z_co iX11_cell_38 ?_
        refine z_iret iX11_cell_40 rfl ?_
        refine ⟨_, rfl, ?_⟩
        unfold sp_cell
        rw [if_neg (fun q => q h1), if_neg h2, if_pos h3]; exact zEM.rd hR
    · refine z_co iX11_cell_19 ?_
      refine z_iret iX11_cell_21 rfl ?_
      refine ⟨_, rfl, ?_⟩
      unfold sp_cell
      rw [if_neg (fun q => q h1), if_pos h2]; exact zEM.rd hR
  · refine z_co iX11_cell_7 ?_
    refine z_iret iX11_cell_9 rfl ?_
    refine ⟨_, rfl, ?_⟩
    unfold sp_cell
    rw [if_pos h1]; exact zEM.rd hR
set_option maxRecDepth 20000 in
set_option maxHeartbeats 4000000 in
theorem l11_sheet {fr : Nat} {M0 : zM} {I J : zSI} {A : zSA} {L : zSL} {K : Int64} {s sort nn : Int32} (hs : zBw s 0 3) (hn0 : nn.toInt = (zN nn : Int)) (hn40 : zN nn ≤ 40) (h0 : ¬ sort < 0)  : ∀ (n i : Nat) (M : zM), i + n = zN nn → RepM M I (zup (zA2 (zA2 (zA2 A 26 (zN s) 1) 27 (zN s) sort) 28 (zN s) nn) 29 (zFill (A 29) (40 * zN s) i 0)) L J K → (∀ a : zAd, a.1 < 40 → M a = M0 a) → zV zX11_sheet fr 0 0 72 (zL [some (zr (40, 0)), some (zi s), some (zi sort), some (zi nn), some (zi (nI i))]) [] M (fun r M' => ∃ x, r = some (zi x) ∧ x = 1 ∧ (∀ a : zAd, a.1 < 40 → M' a = M0 a) ∧ RepM M' I (zup (zA2 (zA2 (zA2 A 26 (zN s) 1) 27 (zN s) sort) 28 (zN s) nn) 29 (zFill (A 29) (40 * zN s) (zN nn) 0)) L J K) := by
  intro n
  induction n with
  | zero =>
    intro i M hn hR hfr
    refine z_il iX11_sheet_72 rfl ?_
    refine z_il iX11_sheet_74 rfl ?_
    refine z_icmp_ge iX11_sheet_75 (fun h1 => ?_) (fun h1 => ?_)
    · refine z_co iX11_sheet_101 ?_
      refine z_iret iX11_sheet_102 rfl ?_
      exact ⟨_, rfl, rfl, hfr, by rw [show i = zN nn by omega] at hR; exact hR⟩
    · exfalso
      have e1 := nI_toInt (n := i) (by omega)
      simp only [zi_le, hn0, e1] at h1
      omega
  | succ n ih =>
    intro i M hn hR hfr
    refine z_il iX11_sheet_72 rfl ?_
    refine z_il iX11_sheet_74 rfl ?_
    refine z_icmp_ge iX11_sheet_75 (fun h1 => ?_) (fun h1 => ?_)
    · exfalso
      have e1 := nI_toInt (n := i) (by omega)
      simp only [zi_le, hn0, e1] at h1
      omega
    · refine z_il iX11_sheet_78 rfl ?_
      refine z_if_lt iX11_sheet_79 (fun h2 => ?_) (fun h2 => ?_)
      · exact absurd (by assumption) h0
      · refine z_al iX11_sheet_82 rfl ?_
        refine z_gf iX11_sheet_83 hR.1 rfl ?_
        refine z_co iX11_sheet_86 ?_
        refine z_il iX11_sheet_88 rfl ?_
        refine z_imul iX11_sheet_89 ?_
        refine z_il iX11_sheet_90 rfl ?_
        refine z_iadd iX11_sheet_92 ?_
        refine z_co iX11_sheet_93 ?_
        refine z_iast iX11_sheet_94 (hR.2.1 29 (by decide)) (show 2 ≤ 41 by decide) (zCl40 (zBn hs).1 (zN3 hs) (nI_toInt (n := i) (by omega)) (show i < 40 by omega)) (show 40 * zN s + i < 160 by have a1 := zN3 hs; omega) ?_
        refine z_in iX11_sheet_95 rfl ?_
        refine z_goto iX11_sheet_98 ?_
        have hR2 := hR.arr 29 (zup (zFill (A 29) (40 * zN s) i 0) (40 * zN s + i) 0)
        refine z_loc [some (zr (40, 0)), some (zi s), some (zi sort), some (zi nn), some (zi (nI (i + 1)))] ⟨rfl, rfl, rfl, rfl, ?_, trivial⟩ (ih (i + 1) _ (by omega) (hR2.cast rfl (by rw [zFill_1, zup_u])) (fun a ha => (zupd_k (by omega)).trans (hfr a ha)))
        show some (zi (nI i + 1)) = _
        rw [nI_1]
set_option maxRecDepth 20000 in
set_option maxHeartbeats 4000000 in
theorem t11_sheet {fr : Nat} {M : zM} {s sort n i : Int32} (h0 : sort < 0) : zV zX11_sheet fr 0 0 72 (zL [some (zr (40, 0)), some (zi s), some (zi sort), some (zi n), some (zi i)]) [] M (fun r M' => ∃ x, r = some (zi x) ∧ x = 1 ∧ M' = M) := by
  refine z_il iX11_sheet_72 rfl ?_
  refine z_il iX11_sheet_74 rfl ?_
  refine z_icmp_ge iX11_sheet_75 (fun h1 => ?_) (fun h1 => ?_)
  · refine z_co iX11_sheet_101 ?_
    refine z_iret iX11_sheet_102 rfl ?_
    exact ⟨_, rfl, rfl, rfl⟩
  · refine z_il iX11_sheet_78 rfl ?_
    refine z_if_lt iX11_sheet_79 (fun h2 => ?_) (fun h2 => ?_)
    · refine z_co iX11_sheet_101 ?_
      refine z_iret iX11_sheet_102 rfl ?_
      exact ⟨_, rfl, rfl, rfl⟩
    · exact absurd h0 (by assumption)
set_option maxRecDepth 20000 in
set_option maxHeartbeats 4000000 in
theorem pm_sheet {fr : Nat} {M : zM} {I J : zSI} {A : zSA} {L : zSL} {K : Int64} (hf : 3 ≤ fr) (hR : RepM M I A L J K) (hV : Val I A L) (s : Int32) (sort : Int32) (n : Int32) : zCi zX11_sheet fr 0 0 [zr (40, 0), zi s, zi sort, zi n] M (fun x M' => zEM M x (sp_sheet I A L s sort n) M') := by
  refine z_enter (L := [some (zr (40, 0)), some (zi s), some (zi sort), some (zi n)]) rfl (by decide +kernel) (Nat.le_of_ble_eq_true rfl) ?_
  refine z_il iX11_sheet_0 rfl ?_
  refine z_cs1i (fr' := fr - 1) iX11_sheet_1 zmX11_isSheet (c11_isSheet (by omega) _) (by omega) (Nat.le_of_ble_eq_true rfl) (fun x M1 hq => ?_)
  obtain ⟨rfl, rfl⟩ := hq
  refine z_ib_eq iX11_sheet_4 (fun h1 => ?_) (fun h1 => ?_)
  · refine z_co iX11_sheet_26 ?_
    refine z_iret iX11_sheet_28 rfl ?_
    refine ⟨_, rfl, ?_⟩
    unfold sp_sheet
    first | (rw [if_pos (Or.inl h1)]; exact zEM.rd hR) | (rw [if_pos (Or.inr (Or.inl h2))]; exact zEM.rd hR) | (rw [if_pos (Or.inr (Or.inr ⟨by simp only [zi_le, zi_lt, Int32.reduceToInt] at *; omega, by simp only [zi_le, zi_lt, Int32.reduceToInt] at *; omega⟩))]; exact zEM.rd hR)
  · refine z_il iX11_sheet_7 rfl ?_
    refine z_co iX11_sheet_8 ?_
    refine z_co iX11_sheet_9 ?_
    refine z_cs3i (fr' := fr - 1) iX11_sheet_10 zmX11_in (c11_in _ _ _) (by omega) (Nat.le_of_ble_eq_true rfl) (fun x M1 hq => ?_)
    obtain ⟨rfl, rfl⟩ := hq
    refine z_ib_eq iX11_sheet_13 (fun h2 => ?_) (fun h2 => ?_)
    · refine z_co iX11_sheet_26 ?_
      refine z_iret iX11_sheet_28 rfl ?_
      refine ⟨_, rfl, ?_⟩
      unfold sp_sheet
      first | (rw [if_pos (Or.inl h1)]; exact zEM.rd hR) | (rw [if_pos (Or.inr (Or.inl h2))]; exact zEM.rd hR) | (rw [if_pos (Or.inr (Or.inr ⟨by simp only [zi_le, zi_lt, Int32.reduceToInt] at *; omega, by simp only [zi_le, zi_lt, Int32.reduceToInt] at *; omega⟩))]; exact zEM.rd hR)
    · refine z_il iX11_sheet_16 rfl ?_
      refine z_if_lt iX11_sheet_17 (fun h3 => ?_) (fun h3 => ?_)
      · refine z_il iX11_sheet_29 rfl ?_
        refine z_if_lt iX11_sheet_30 (fun h4 => ?_) (fun h4 => ?_)
        · refine z_al iX11_sheet_40 rfl ?_
          refine z_gf iX11_sheet_41 hR.1 rfl ?_
          refine z_il iX11_sheet_44 rfl ?_
          refine z_il iX11_sheet_45 rfl ?_
          refine z_if_lt iX11_sheet_46 (fun h5 => ?_) (fun h5 => ?_)
          · refine z_co iX11_sheet_53 ?_
            refine z_zast iX11_sheet_54 (hR.2.1 26 (by decide)) (show 2 ≤ 41 by decide) (by first | exact Or.inl rfl | exact Or.inr rfl) (zBn h1).1 (zN3 h1) ?_
            refine z_al iX11_sheet_55 rfl ?_
            refine z_gf iX11_sheet_56 ((zupd_k (Nat.ne_of_beq_eq_false rfl)).trans hR.1) rfl ?_
            refine z_il iX11_sheet_59 rfl ?_
            refine z_il iX11_sheet_60 rfl ?_
            refine z_iast iX11_sheet_61 ((zupd_i (Nat.ne_of_beq_eq_false rfl)).trans (hR.2.1 27 (by decide))) (show 2 ≤ 41 by decide) (zBn h1).1 (zN3 h1) ?_
            refine z_al iX11_sheet_62 rfl ?_
            refine z_gf iX11_sheet_63 ((zupd_k (Nat.ne_of_beq_eq_false rfl)).trans ((zupd_k (Nat.ne_of_beq_eq_false rfl)).trans hR.1)) rfl ?_
            refine z_il iX11_sheet_66 rfl ?_
            refine z_il iX11_sheet_67 rfl ?_
            refine z_iast iX11_sheet_68 ((zupd_i (Nat.ne_of_beq_eq_false rfl)).trans ((zupd_i (Nat.ne_of_beq_eq_false rfl)).trans (hR.2.1 28 (by decide)))) (show 2 ≤ 41 by decide) (zBn h1).1 (zN3 h1) ?_
            refine z_co iX11_sheet_69 ?_
            refine z_is iX11_sheet_70 ?_
            have hz : sort < 0 := by assumption
            have hz0 : ¬ 0 ≤ sort := by simp only [zi_le, zi_lt, Int32.reduceToInt] at *; omega
            have e : sA_sheet A (zN s) sort n = zA2 (zA2 (zA2 A 26 (zN s) 0) 27 (zN s) sort) 28 (zN s) n := if_neg hz0
            refine z_loc [some (zr (40, 0)), some (zi s), some (zi sort), some (zi n), some (zi (nI 0))] ⟨rfl, rfl, rfl, rfl, rfl, trivial⟩ ?_
            have h9 := ((hR.arr 26 (zup (A 26) (zN s) 0)).arr 27 (zup (A 27) (zN s) sort)).arr 28 (zup (A 28) (zN s) n)
            refine (t11_sheet hz).mono (fun r M' ⟨x, hr, hx, hm⟩ => ⟨x, hr, ?_⟩)
            subst hm
            unfold sp_sheet
            rw [if_neg (fun q => q.elim (fun z => z h1) (fun z => z.elim (fun z => z h2) (fun z => hz0 z.1))), if_neg (fun q => hz0 q.1), e]
            exact ⟨hx, zfr (zfr (zfr zfr_nil (by decide)) (by decide)) (by decide), _, J, K, fun _ _ => rfl, h9⟩
          · exact absurd h3 h5
        · exact absurd h3 h4
      · refine z_il iX11_sheet_20 rfl ?_
        refine z_co iX11_sheet_21 ?_
        refine z_icmp_le iX11_sheet_23 (fun h6 => ?_) (fun h6 => ?_)
        · refine z_il iX11_sheet_29 rfl ?_
          refine z_if_lt iX11_sheet_30 (fun h7 => ?_) (fun h7 => ?_)
          · exact absurd h7 h3
          · refine z_il iX11_sheet_33 rfl ?_
            refine z_if_ge iX11_sheet_34 (fun h8 => ?_) (fun h8 => ?_)
            · refine z_al iX11_sheet_40 rfl ?_
              refine z_gf iX11_sheet_41 hR.1 rfl ?_
              refine z_il iX11_sheet_44 rfl ?_
              refine z_il iX11_sheet_45 rfl ?_
              refine z_if_lt iX11_sheet_46 (fun h9 => ?_) (fun h9 => ?_)
              · exact absurd h9 h3
              · refine z_co iX11_sheet_49 ?_
                refine z_goto iX11_sheet_50 ?_
                refine z_zast iX11_sheet_54 (hR.2.1 26 (by decide)) (show 2 ≤ 41 by decide) (by first | exact Or.inl rfl | exact Or.inr rfl) (zBn h1).1 (zN3 h1) ?_
                refine z_al iX11_sheet_55 rfl ?_
                refine z_gf iX11_sheet_56 ((zupd_k (Nat.ne_of_beq_eq_false rfl)).trans hR.1) rfl ?_
                refine z_il iX11_sheet_59 rfl ?_
                refine z_il iX11_sheet_60 rfl ?_
                refine z_iast iX11_sheet_61 ((zupd_i (Nat.ne_of_beq_eq_false rfl)).trans (hR.2.1 27 (by decide))) (show 2 ≤ 41 by decide) (zBn h1).1 (zN3 h1) ?_
                refine z_al iX11_sheet_62 rfl ?_
                refine z_gf iX11_sheet_63 ((zupd_k (Nat.ne_of_beq_eq_false rfl)).trans ((zupd_k (Nat.ne_of_beq_eq_false rfl)).trans hR.1)) rfl ?_
                refine z_il iX11_sheet_66 rfl ?_
                refine z_il iX11_sheet_67 rfl ?_
                refine z_iast iX11_sheet_68 ((zupd_i (Nat.ne_of_beq_eq_false rfl)).trans ((zupd_i (Nat.ne_of_beq_eq_false rfl)).trans (hR.2.1 28 (by decide)))) (show 2 ≤ 41 by decide) (zBn h1).1 (zN3 h1) ?_
                refine z_co iX11_sheet_69 ?_
                refine z_is iX11_sheet_70 ?_
                have hz : ¬ sort < 0 := by simp only [zi_le, zi_lt, Int32.reduceToInt] at *; omega
                have hz0 : 0 ≤ sort := by simp only [zi_le, zi_lt, Int32.reduceToInt] at *; omega
                have hn1 : ¬ n < 0 := by simp only [zi_le, zi_lt, Int32.reduceToInt] at *; omega
                have hn2 : ¬ 40 < n := by simp only [zi_le, zi_lt, Int32.reduceToInt] at *; omega
                have hn3 : n.toInt = (zN n : Int) ∧ zN n ≤ 40 := by
                  have e0 : zN n = n.toInt.toNat := rfl
                  simp only [zi_le, zi_lt, Int32.reduceToInt] at hn1 hn2
                  omega
                have e : sA_sheet A (zN s) sort n = zup (zA2 (zA2 (zA2 A 26 (zN s) 1) 27 (zN s) sort) 28 (zN s) n) 29 (zFill (A 29) (40 * zN s) (zN n) 0) := if_pos hz0
                refine z_loc [some (zr (40, 0)), some (zi s), some (zi sort), some (zi n), some (zi (nI 0))] ⟨rfl, rfl, rfl, rfl, rfl, trivial⟩ ?_
                have h9 := ((hR.arr 26 (zup (A 26) (zN s) 1)).arr 27 (zup (A 27) (zN s) sort)).arr 28 (zup (A 28) (zN s) n)
                refine (l11_sheet (I := I) (J := J) (L := L) (K := K) (s := s) (A := A) h1 hn3.1 hn3.2 hz (zN n) 0 _ (by omega) (by rw [zFill_0, show A 29 = (zA2 (zA2 (zA2 A 26 (zN s) 1) 27 (zN s) sort) 28 (zN s) n) 29 from rfl, zupA_id]; exact h9) (zfr (zfr (zfr zfr_nil (by decide)) (by decide)) (by decide))).mono (fun r M' ⟨x, hr, hx, hfr, hR2⟩ => ⟨x, hr, ?_⟩)
                unfold sp_sheet
                rw [if_neg (fun q => q.elim (fun z => z h1) (fun z => z.elim (fun z => z h2) (fun z => hn2 z.2))), if_neg (fun q => hn1 q.2), e]
                exact ⟨hx, hfr, _, J, K, fun _ _ => rfl, hR2⟩
            · refine z_co iX11_sheet_37 ?_
              refine z_iret iX11_sheet_39 rfl ?_
              refine ⟨_, rfl, ?_⟩
              unfold sp_sheet
              have hp0 : 0 ≤ sort := by simp only [zi_le, zi_lt, Int32.reduceToInt] at *; omega
              have hp1 : n < 0 := by simp only [zi_le, zi_lt, Int32.reduceToInt] at *; omega
              have hp2 : ¬ 40 < n := by simp only [zi_le, zi_lt, Int32.reduceToInt] at *; omega
              rw [if_neg (fun q => q.elim (fun z => z h1) (fun z => z.elim (fun z => z h2) (fun z => hp2 z.2))), if_pos ⟨hp0, hp1⟩]
              exact zEM.rd hR
        · refine z_co iX11_sheet_26 ?_
          refine z_iret iX11_sheet_28 rfl ?_
          refine ⟨_, rfl, ?_⟩
          unfold sp_sheet
          first | (rw [if_pos (Or.inl h1)]; exact zEM.rd hR) | (rw [if_pos (Or.inr (Or.inl h2))]; exact zEM.rd hR) | (rw [if_pos (Or.inr (Or.inr ⟨by simp only [zi_le, zi_lt, Int32.reduceToInt] at *; omega, by simp only [zi_le, zi_lt, Int32.reduceToInt] at *; omega⟩))]; exact zEM.rd hR)
theorem Val.sheet {I : zSI} {A A' : zSA} {L : zSL} (h : Val I A L) (hA : ∀ k, k < 30 → (k < 26 ∨ 29 < k) → A' k = A k) (h7 : ∀ s : Nat, s < 4 → (A' 26 s = 0 ∨ A' 26 s = 1) ∧ (A' 26 s = 1 → zRg (A' 27 s) 0 2 ∧ zRg (A' 28 s) 0 40)) : Val I A' L := by
  have q := fun k hk => hA k (show k < 30 by omega) (Or.inl (show k < 26 from hk))
  have q0 := q 0 (by decide); have q4 := q 4 (by decide); have q5 := q 5 (by decide); have q11 := q 11 (by decide); have q13 := q 13 (by decide); have q14 := q 14 (by decide); have q17 := q 17 (by decide); have q18 := q 18 (by decide); have q20 := q 20 (by decide); have q22 := q 22 (by decide); have q23 := q 23 (by decide); have q24 := q 24 (by decide); have q25 := q 25 (by decide)
  obtain ⟨h1, h2, h3, h4, h5, h6, -, h8⟩ := h
  refine ⟨h1, ?_, ?_, ?_, ?_, ?_, h7, ?_⟩
  · rw [q0, q4, q5, q11]; exact h2
  · rw [q13, q14, q17, q18, q23]; exact h3
  · rw [q23, q22]; exact h4
  · rw [q20]; exact h5
  · rw [q25]; exact h6
  · rw [q24]; exact h8
theorem zp_sheet {TR : zTR} {JR : zJR} (s sort n : Int32) : zPI (zInv TR JR) zX10_sheet zX11_sheet 0 0 [zi s, zi sort, zi n] :=
  zPI_of (fun I A L => sp_sheet I A L s sort n) (fun _ _ _ _ _ hf hX hV => px_sheet (by omega) hX hV s sort n) (fun _ _ _ _ _ _ _ hf hR hV => pm_sheet (by omega) hR hV s sort n) (fun I A L hV => by
    show Val (sp_sheet I A L s sort n).2.1 (sp_sheet I A L s sort n).2.2.1 (sp_sheet I A L s sort n).2.2.2
    unfold sp_sheet
    by_cases c1 : ¬ zBw s 0 3 ∨ ¬ zBw sort (-1) 2 ∨ (0 ≤ sort ∧ 40 < n)
    · rw [if_pos c1]; exact hV
    · rw [if_neg c1]
      by_cases c2 : 0 ≤ sort ∧ n < 0
      · rw [if_pos c2]; exact hV
      · rw [if_neg c2]
        show Val I (sA_sheet A (zN s) sort n) L
        have d2 : zBw sort (-1) 2 := Decidable.of_not_not fun z => c1 (Or.inr (Or.inl z))
        have d3 : ¬ (0 ≤ sort ∧ 40 < n) := fun z => c1 (Or.inr (Or.inr z))
        by_cases c3 : 0 ≤ sort
        · have e : sA_sheet A (zN s) sort n = zup (zA2 (zA2 (zA2 A 26 (zN s) 1) 27 (zN s) sort) 28 (zN s) n) 29 (zFill (A 29) (40 * zN s) (zN n) 0) := if_pos c3
          rw [e]
          refine hV.sheet (fun k h1 h2 => by rw [zup_n (by omega), zA2_row (by omega), zA2_row (by omega), zA2_row (by omega)]) (fun u hu => ?_)
          rw [zup_n (by decide), zup_n (by decide), zup_n (by decide)]
          by_cases z : u = zN s
          · subst z
            have a26 : zA2 (zA2 (zA2 A 26 (zN s) 1) 27 (zN s) sort) 28 (zN s) n 26 (zN s) = 1 := by simp [zA2, zup]
            have a27 : zA2 (zA2 (zA2 A 26 (zN s) 1) 27 (zN s) sort) 28 (zN s) n 27 (zN s) = sort := by simp [zA2, zup]
            have a28 : zA2 (zA2 (zA2 A 26 (zN s) 1) 27 (zN s) sort) 28 (zN s) n 28 (zN s) = n := by simp [zA2, zup]
            rw [a26, a27, a28]
            refine ⟨Or.inr rfl, fun _ => ?_⟩
            unfold zRg
            obtain ⟨z1, z2⟩ := d2
            have e1 : ¬ n < 0 := fun q => c2 ⟨c3, q⟩
            have e2 : ¬ 40 < n := fun q => d3 ⟨c3, q⟩
            simp only [zi_le, zi_lt, Int32.reduceToInt] at *
            omega
          · rw [zA2_col z, zA2_col z, zA2_col z, zA2_col z, zA2_col z, zA2_col z, zA2_col z, zA2_col z, zA2_col z]
            exact hV.2.2.2.2.2.2.1 u hu
        · have e : sA_sheet A (zN s) sort n = zA2 (zA2 (zA2 A 26 (zN s) 0) 27 (zN s) sort) 28 (zN s) n := if_neg c3
          rw [e]
          refine hV.sheet (fun k h1 h2 => by rw [zA2_row (by omega), zA2_row (by omega), zA2_row (by omega)]) (fun u hu => ?_)
          by_cases z : u = zN s
          · subst z
            have a26 : zA2 (zA2 (zA2 A 26 (zN s) 0) 27 (zN s) sort) 28 (zN s) n 26 (zN s) = 0 := by simp [zA2, zup]
            rw [a26]
            exact ⟨Or.inl rfl, fun q => absurd q (by decide)⟩
          · rw [zA2_col z, zA2_col z, zA2_col z, zA2_col z, zA2_col z, zA2_col z, zA2_col z, zA2_col z, zA2_col z]
            exact hV.2.2.2.2.2.2.1 u hu)
theorem zp_cell {TR : zTR} {JR : zJR} (s i v : Int32) : zPI (zInv TR JR) zX10_cell zX11_cell 0 0 [zi s, zi i, zi v] :=
  zPI_of (fun I A L => sp_cell I A L s i v) (fun _ _ _ _ _ hf hX hV => px_cell (by omega) hX hV s i v) (fun _ _ _ _ _ _ _ hf hR hV => pm_cell (by omega) hR hV s i v) (fun I A L hV => by
    show Val (sp_cell I A L s i v).2.1 (sp_cell I A L s i v).2.2.1 (sp_cell I A L s i v).2.2.2
    unfold sp_cell
    by_cases c1 : ¬ zBw s 0 3
    · rw [if_pos c1]; exact hV
    · rw [if_neg c1]
      by_cases c2 : A 26 (zN s) = 0
      · rw [if_pos c2]; exact hV
      · rw [if_neg c2]
        by_cases c3 : ¬ zBw i 0 (A 28 (zN s) - 1)
        · rw [if_pos c3]; exact hV
        · rw [if_neg c3]
          show Val I (zA2 A 29 (40 * zN s + zN i) (zTo (A 27 (zN s)) v)) L
          refine hV.sheet (fun k h1 h2 => zA2_row (by omega)) (fun u hu => ?_)
          rw [zA2_row (by decide), zA2_row (by decide), zA2_row (by decide)]
          exact hV.2.2.2.2.2.2.1 u hu)
/-- edges that are not good among the first m -/
def cBad (A : zSA) : Nat → Int32
  | 0 => 0
  | m + 1 => cBad A m + (if A 5 m = 0 then 0 else 1)
def sp_count (I : zSI) (A : zSA) (L : zSL) (w : Int32) : zRes := (if w = 0 then I 0 else if w = 1 then I 1 else if w = 2 then I 8 else if w = 3 then I 9 else if w = 4 then I 5 else if w = 5 then I 7 else if w = 6 then I 6 else if w = 7 then I 4 else if w = 8 then cBad A (zN (I 0)) else -2, I, A, L)
theorem xo_nat {k i : Nat} {n : Int32} (h : (i : Int) < n.toInt) (h2 : i < 1000) : xo k n (nI i) = some (k, i) := by
  have e1 := nI_toInt (n := i) (by omega)
  unfold xo
  have e0 : zN (nI i) = (nI i).toInt.toNat := rfl
  have e2 : (n - 1).toInt = n.toInt - 1 := zsub (by simp only [Int32.reduceToInt]; omega) (by simp only [Int32.reduceToInt]; have := n.toInt_lt; omega)
  rw [if_pos ⟨zi_le.mpr (by rw [e1]; simp only [Int32.reduceToInt]; omega), zi_le.mpr (by rw [e1, e2]; omega)⟩, show zN (nI i) = i by omega]
set_option maxRecDepth 20000 in
set_option maxHeartbeats 4000000 in
theorem l10_bad {TR : zTR} {JR : zJR} {fr : Nat} {M : zM} {I : zSI} {A : zSA} {L : zSL} (hf : 2 ≤ fr) (hX : RepX TR JR M I A L) (hV : Val I A L)  : ∀ (n i : Nat), i + n = zN (I 0) → zV zX10_edgesNotGood fr 0 0 4 (zL [some (zr (2, 0)), some (zi (cBad A i)), some (zi (nI i))]) [] M (fun r M' => ∃ x, r = some (zi x) ∧ M' = M ∧ x = cBad A (zN (I 0))) := by
  intro n
  induction n with
  | zero =>
    intro i  hn 
    have h24 : (I 0).toInt = (zN (I 0) : Int) ∧ zN (I 0) ≤ 24 := by
      obtain ⟨z1, z2⟩ := hV.1.1
      have e0 : zN (I 0) = (I 0).toInt.toNat := rfl
      omega
    refine z_il iX10_edgesNotGood_4 rfl ?_
    refine z_al iX10_edgesNotGood_5 rfl ?_
    refine z_gf iX10_edgesNotGood_6 hX.1.1 rfl ?_
    refine z_icmp_ge iX10_edgesNotGood_9 (fun h1 => ?_) (fun h1 => ?_)
    · refine z_il iX10_edgesNotGood_38 rfl ?_
      refine z_iret iX10_edgesNotGood_39 rfl ?_
      exact ⟨_, rfl, rfl, by rw [show i = zN (I 0) by omega]⟩
    · exfalso
      have e1 := nI_toInt (n := i) (by omega)
      simp only [zi_le, h24.1, e1] at h1
      omega
  | succ n ih =>
    intro i  hn 
    have h24 : (I 0).toInt = (zN (I 0) : Int) ∧ zN (I 0) ≤ 24 := by
      obtain ⟨z1, z2⟩ := hV.1.1
      have e0 : zN (I 0) = (I 0).toInt.toNat := rfl
      omega
    refine z_il iX10_edgesNotGood_4 rfl ?_
    refine z_al iX10_edgesNotGood_5 rfl ?_
    refine z_gf iX10_edgesNotGood_6 hX.1.1 rfl ?_
    refine z_icmp_ge iX10_edgesNotGood_9 (fun h1 => ?_) (fun h1 => ?_)
    · exfalso
      have e1 := nI_toInt (n := i) (by omega)
      simp only [zi_le, h24.1, e1] at h1
      omega
    · refine z_al iX10_edgesNotGood_12 rfl ?_
      refine z_il iX10_edgesNotGood_13 rfl ?_
      refine z_cv1a (fr' := fr - 1) iX10_edgesNotGood_14 zmX10_edgeOf hX.1.1 (c10_edgeOf (by omega) hX hV _) (by omega) (Nat.le_of_ble_eq_true rfl) (fun x M1 hq => ?_)
      obtain ⟨rfl, rfl⟩ := hq
      have hlt : (i : Int) < (I 0).toInt := by have e1 := nI_toInt (n := i) (by omega); simp only [zi_le, e1] at h1; omega
      rw [xo_nat hlt (by omega)]
      have hedge := (hX.2.1.1 i hlt).1
      refine z_as iX10_edgesNotGood_17 ?_
      refine z_al iX10_edgesNotGood_18 rfl ?_
      refine z_ifnull iX10_edgesNotGood_19 (fun h2 => ?_) (fun x2 h2 => ?_)
      · cases h2
      · cases h2
        refine z_al iX10_edgesNotGood_22 rfl ?_
        refine z_gf iX10_edgesNotGood_23 hedge rfl ?_
        refine z_if_eq iX10_edgesNotGood_26 (fun h3 => ?_) (fun h3 => ?_)
        · refine z_in iX10_edgesNotGood_32 rfl ?_
          refine z_goto iX10_edgesNotGood_35 ?_
          refine z_loc [some (zr (2, 0)), some (zi (cBad A (i + 1))), some (zi (nI (i + 1)))] ⟨rfl, ?_, ?_, trivial⟩ (ih (i + 1) (by omega))
          · by_cases z : A 5 i = 0
            · have e : cBad A (i + 1) = cBad A i := by show cBad A i + (if A 5 i = 0 then 0 else 1) = _; rw [if_pos z, Int32.add_zero]
              rw [e]
              first | rfl | exact absurd z (by assumption)
            · have e : cBad A (i + 1) = cBad A i + 1 := by show cBad A i + (if A 5 i = 0 then 0 else 1) = _; rw [if_neg z]
              rw [e]
              first | rfl | exact absurd (by assumption) z
          · show some (zi (nI i + 1)) = _
            rw [nI_1]
        · refine z_in iX10_edgesNotGood_29 rfl ?_
          refine z_in iX10_edgesNotGood_32 rfl ?_
          refine z_goto iX10_edgesNotGood_35 ?_
          refine z_loc [some (zr (2, 0)), some (zi (cBad A (i + 1))), some (zi (nI (i + 1)))] ⟨rfl, ?_, ?_, trivial⟩ (ih (i + 1) (by omega))
          · by_cases z : A 5 i = 0
            · have e : cBad A (i + 1) = cBad A i := by show cBad A i + (if A 5 i = 0 then 0 else 1) = _; rw [if_pos z, Int32.add_zero]
              rw [e]
              first | rfl | exact absurd z (by assumption)
            · have e : cBad A (i + 1) = cBad A i + 1 := by show cBad A i + (if A 5 i = 0 then 0 else 1) = _; rw [if_neg z]
              rw [e]
              first | rfl | exact absurd (by assumption) z
          · show some (zi (nI i + 1)) = _
            rw [nI_1]
set_option maxRecDepth 20000 in
set_option maxHeartbeats 4000000 in
theorem c10_bad {TR : zTR} {JR : zJR} {fr : Nat} {M : zM} {I : zSI} {A : zSA} {L : zSL} (hf : 2 ≤ fr) (hX : RepX TR JR M I A L) (hV : Val I A L) : zCi zX10_edgesNotGood fr 0 0 [zr (2, 0)] M (fun x M' => M' = M ∧ x = cBad A (zN (I 0))) := by
  refine z_enter (L := [some (zr (2, 0))]) rfl (by decide +kernel) (Nat.le_of_ble_eq_true rfl) ?_
  refine z_co iX10_edgesNotGood_0 ?_
  refine z_is iX10_edgesNotGood_1 ?_
  refine z_co iX10_edgesNotGood_2 ?_
  refine z_is iX10_edgesNotGood_3 ?_
  refine z_loc [some (zr (2, 0)), some (zi (cBad A 0)), some (zi (nI 0))] ⟨rfl, rfl, rfl, trivial⟩ ?_
  exact l10_bad hf hX hV (zN (I 0)) 0 (by omega)
set_option maxRecDepth 20000 in
set_option maxHeartbeats 4000000 in
theorem px_count {TR : zTR} {JR : zJR} {fr : Nat} {M : zM} {I : zSI} {A : zSA} {L : zSL} (hf : 4 ≤ fr) (hX : RepX TR JR M I A L) (hV : Val I A L) (w : Int32) : zCi zX10_count fr 0 0 [zr (2, 0), zi w] M (fun x M' => zEX TR JR M x (sp_count I A L w) M') := by
  refine z_enter (L := [some (zr (2, 0)), some (zi w)]) rfl (by decide +kernel) (Nat.le_of_ble_eq_true rfl) ?_
  refine z_il iX10_count_0 rfl ?_
  refine z_sw iX10_count_1 ⟨fun h1 => ?_, fun h1 => ?_, fun h1 => ?_, fun h1 => ?_, fun h1 => ?_, fun h1 => ?_, fun h1 => ?_, fun h1 => ?_, fun h1 => ?_, trivial⟩ (fun h1 => ?_)
  · refine z_al iX10_count_52 rfl ?_
    refine z_gf iX10_count_53 hX.1.1 rfl ?_
    refine z_iret iX10_count_56 rfl ?_
    refine ⟨_, rfl, ?_⟩
    unfold sp_count
    try simp only [List.length_cons, List.length_nil] at h1
    repeat' split
    all_goals first | exact zEX.rd hX | (exfalso; simp only [zi_eq, zi_lt, zi_le, Int32.reduceToInt] at * <;> omega)
  · refine z_al iX10_count_57 rfl ?_
    refine z_gf iX10_count_58 hX.1.1 rfl ?_
    refine z_iret iX10_count_61 rfl ?_
    refine ⟨_, rfl, ?_⟩
    unfold sp_count
    try simp only [List.length_cons, List.length_nil] at h1
    repeat' split
    all_goals first | exact zEX.rd hX | (exfalso; simp only [zi_eq, zi_lt, zi_le, Int32.reduceToInt] at * <;> omega)
  · refine z_al iX10_count_62 rfl ?_
    refine z_gf iX10_count_63 hX.1.1 rfl ?_
    refine z_iret iX10_count_66 rfl ?_
    refine ⟨_, rfl, ?_⟩
    unfold sp_count
    try simp only [List.length_cons, List.length_nil] at h1
    repeat' split
    all_goals first | exact zEX.rd hX | (exfalso; simp only [zi_eq, zi_lt, zi_le, Int32.reduceToInt] at * <;> omega)
  · obtain ⟨jr, jf, jb, hjobs, -⟩ := hX.2.2.2.2.2.2.2.2
    refine z_al iX10_count_67 rfl ?_
    refine z_gf iX10_count_68 hX.1.1 rfl ?_
    refine z_gf iX10_count_71 hjobs rfl ?_
    refine z_iret iX10_count_74 rfl ?_
    refine ⟨_, rfl, ?_⟩
    unfold sp_count
    try simp only [List.length_cons, List.length_nil] at h1
    repeat' split
    all_goals first | exact zEX.rd hX | (exfalso; simp only [zi_eq, zi_lt, zi_le, Int32.reduceToInt] at * <;> omega)
  · refine z_al iX10_count_75 rfl ?_
    refine z_gf iX10_count_76 hX.1.1 rfl ?_
    refine z_iret iX10_count_79 rfl ?_
    refine ⟨_, rfl, ?_⟩
    unfold sp_count
    try simp only [List.length_cons, List.length_nil] at h1
    repeat' split
    all_goals first | exact zEX.rd hX | (exfalso; simp only [zi_eq, zi_lt, zi_le, Int32.reduceToInt] at * <;> omega)
  · obtain ⟨tc, tf, tg, th, htape, -⟩ := hX.2.2.2.2.2.2.1
    refine z_al iX10_count_80 rfl ?_
    refine z_gf iX10_count_81 hX.1.1 rfl ?_
    refine z_gf iX10_count_84 htape rfl ?_
    refine z_iret iX10_count_87 rfl ?_
    refine ⟨_, rfl, ?_⟩
    unfold sp_count
    try simp only [List.length_cons, List.length_nil] at h1
    repeat' split
    all_goals first | exact zEX.rd hX | (exfalso; simp only [zi_eq, zi_lt, zi_le, Int32.reduceToInt] at * <;> omega)
  · refine z_al iX10_count_88 rfl ?_
    refine z_gf iX10_count_89 hX.1.1 rfl ?_
    refine z_iret iX10_count_92 rfl ?_
    refine ⟨_, rfl, ?_⟩
    unfold sp_count
    try simp only [List.length_cons, List.length_nil] at h1
    repeat' split
    all_goals first | exact zEX.rd hX | (exfalso; simp only [zi_eq, zi_lt, zi_le, Int32.reduceToInt] at * <;> omega)
  · refine z_al iX10_count_93 rfl ?_
    refine z_gf iX10_count_94 hX.1.1 rfl ?_
    refine z_gf iX10_count_97 hX.1.2.2.2.2.2.2 rfl ?_
    refine z_iret iX10_count_100 rfl ?_
    refine ⟨_, rfl, ?_⟩
    unfold sp_count
    try simp only [List.length_cons, List.length_nil] at h1
    repeat' split
    all_goals first | exact zEX.rd hX | (exfalso; simp only [zi_eq, zi_lt, zi_le, Int32.reduceToInt] at * <;> omega)
  · refine z_al iX10_count_101 rfl ?_
    refine z_cv0i (fr' := fr - 1) iX10_count_102 zmX10_edgesNotGood hX.1.1 (c10_bad (by omega) hX hV) (by omega) (Nat.le_of_ble_eq_true rfl) (fun x M1 hq => ?_)
    obtain ⟨rfl, rfl⟩ := hq
    refine z_iret iX10_count_105 rfl ?_
    refine ⟨_, rfl, ?_⟩
    unfold sp_count
    try simp only [List.length_cons, List.length_nil] at h1
    repeat' split
    all_goals first | exact zEX.rd hX | (exfalso; simp only [zi_eq, zi_lt, zi_le, Int32.reduceToInt] at * <;> omega)
  · refine z_co iX10_count_106 ?_
    refine z_iret iX10_count_108 rfl ?_
    refine ⟨_, rfl, ?_⟩
    unfold sp_count
    try simp only [List.length_cons, List.length_nil] at h1
    repeat' split
    all_goals first | exact zEX.rd hX | (exfalso; simp only [zi_eq, zi_lt, zi_le, Int32.reduceToInt] at * <;> omega)
set_option maxRecDepth 20000 in
set_option maxHeartbeats 4000000 in
theorem l11_count {fr : Nat} {M : zM} {I J : zSI} {A : zSA} {L : zSL} {K : Int64} (hR : RepM M I A L J K) (hV : Val I A L) (w : Int32)  : ∀ (n i : Nat), i + n = zN (I 0) → zV zX11_count fr 0 0 94 (zL [some (zr (40, 0)), some (zi w), some (zi (cBad A i)), some (zi (nI i))]) [] M (fun r M' => ∃ x, r = some (zi x) ∧ M' = M ∧ x = cBad A (zN (I 0))) := by
  intro n
  induction n with
  | zero =>
    intro i  hn 
    have h24 : (I 0).toInt = (zN (I 0) : Int) ∧ zN (I 0) ≤ 24 := by
      obtain ⟨z1, z2⟩ := hV.1.1
      have e0 : zN (I 0) = (I 0).toInt.toNat := rfl
      omega
    refine z_il iX11_count_94 rfl ?_
    refine z_al iX11_count_95 rfl ?_
    refine z_gf iX11_count_96 hR.1 rfl ?_
    refine z_icmp_ge iX11_count_99 (fun h1 => ?_) (fun h1 => ?_)
    · refine z_il iX11_count_125 rfl ?_
      refine z_iret iX11_count_126 rfl ?_
      exact ⟨_, rfl, rfl, by rw [show i = zN (I 0) by omega]⟩
    · exfalso
      have e1 := nI_toInt (n := i) (by omega)
      simp only [zi_le, h24.1, e1] at h1
      omega
  | succ n ih =>
    intro i  hn 
    have h24 : (I 0).toInt = (zN (I 0) : Int) ∧ zN (I 0) ≤ 24 := by
      obtain ⟨z1, z2⟩ := hV.1.1
      have e0 : zN (I 0) = (I 0).toInt.toNat := rfl
      omega
    refine z_il iX11_count_94 rfl ?_
    refine z_al iX11_count_95 rfl ?_
    refine z_gf iX11_count_96 hR.1 rfl ?_
    refine z_icmp_ge iX11_count_99 (fun h1 => ?_) (fun h1 => ?_)
    · exfalso
      have e1 := nI_toInt (n := i) (by omega)
      simp only [zi_le, h24.1, e1] at h1
      omega
    · refine z_il iX11_count_102 rfl ?_
      refine z_al iX11_count_103 rfl ?_
      refine z_gf iX11_count_104 hR.1 rfl ?_
      refine z_il iX11_count_107 rfl ?_
      refine z_iald iX11_count_108 (hR.2.1 5 (by decide)) (nI_toInt (n := i) (by omega)) (show i < 24 by omega) ?_
      refine z_if_eq iX11_count_109 (fun h2 => ?_) (fun h2 => ?_)
      · refine z_co iX11_count_116 ?_
        refine z_iadd iX11_count_117 ?_
        refine z_is iX11_count_118 ?_
        refine z_in iX11_count_119 rfl ?_
        refine z_goto iX11_count_122 ?_
        refine z_loc [some (zr (40, 0)), some (zi w), some (zi (cBad A (i + 1))), some (zi (nI (i + 1)))] ⟨rfl, rfl, ?_, ?_, trivial⟩ (ih (i + 1) (by omega))
        · by_cases z : A 5 i = 0
          · have e : cBad A (i + 1) = cBad A i + 0 := by show cBad A i + (if A 5 i = 0 then 0 else 1) = _; rw [if_pos z]
            rw [e]
            first | rfl | exact absurd z (by assumption)
          · have e : cBad A (i + 1) = cBad A i + 1 := by show cBad A i + (if A 5 i = 0 then 0 else 1) = _; rw [if_neg z]
            rw [e]
            first | rfl | exact absurd (by assumption) z
        · show some (zi (nI i + 1)) = _
          rw [nI_1]
      · refine z_co iX11_count_112 ?_
        refine z_goto iX11_count_113 ?_
        refine z_iadd iX11_count_117 ?_
        refine z_is iX11_count_118 ?_
        refine z_in iX11_count_119 rfl ?_
        refine z_goto iX11_count_122 ?_
        refine z_loc [some (zr (40, 0)), some (zi w), some (zi (cBad A (i + 1))), some (zi (nI (i + 1)))] ⟨rfl, rfl, ?_, ?_, trivial⟩ (ih (i + 1) (by omega))
        · by_cases z : A 5 i = 0
          · have e : cBad A (i + 1) = cBad A i + 0 := by show cBad A i + (if A 5 i = 0 then 0 else 1) = _; rw [if_pos z]
            rw [e]
            first | rfl | exact absurd z (by assumption)
          · have e : cBad A (i + 1) = cBad A i + 1 := by show cBad A i + (if A 5 i = 0 then 0 else 1) = _; rw [if_neg z]
            rw [e]
            first | rfl | exact absurd (by assumption) z
        · show some (zi (nI i + 1)) = _
          rw [nI_1]
set_option maxRecDepth 20000 in
set_option maxHeartbeats 4000000 in
theorem pm_count {fr : Nat} {M : zM} {I J : zSI} {A : zSA} {L : zSL} {K : Int64} (hf : 3 ≤ fr) (hR : RepM M I A L J K) (hV : Val I A L) (w : Int32) : zCi zX11_count fr 0 0 [zr (40, 0), zi w] M (fun x M' => zEM M x (sp_count I A L w) M') := by
  refine z_enter (L := [some (zr (40, 0)), some (zi w)]) rfl (by decide +kernel) (Nat.le_of_ble_eq_true rfl) ?_
  refine z_co iX11_count_0 ?_
  refine z_is iX11_count_1 ?_
  refine z_il iX11_count_2 rfl ?_
  refine z_sw iX11_count_3 ⟨fun h1 => ?_, fun h1 => ?_, fun h1 => ?_, fun h1 => ?_, fun h1 => ?_, fun h1 => ?_, fun h1 => ?_, fun h1 => ?_, fun h1 => ?_, trivial⟩ (fun h1 => ?_)
  · refine z_al iX11_count_52 rfl ?_
    refine z_gf iX11_count_53 hR.1 rfl ?_
    refine z_iret iX11_count_56 rfl ?_
    refine ⟨_, rfl, ?_⟩
    unfold sp_count
    try simp only [List.length_cons, List.length_nil] at h1
    repeat' split
    all_goals first | exact zEM.rd hR | (exfalso; simp only [zi_eq, zi_lt, zi_le, Int32.reduceToInt] at * <;> omega)
  · refine z_al iX11_count_57 rfl ?_
    refine z_gf iX11_count_58 hR.1 rfl ?_
    refine z_iret iX11_count_61 rfl ?_
    refine ⟨_, rfl, ?_⟩
    unfold sp_count
    try simp only [List.length_cons, List.length_nil] at h1
    repeat' split
    all_goals first | exact zEM.rd hR | (exfalso; simp only [zi_eq, zi_lt, zi_le, Int32.reduceToInt] at * <;> omega)
  · refine z_al iX11_count_62 rfl ?_
    refine z_gf iX11_count_63 hR.1 rfl ?_
    refine z_iret iX11_count_66 rfl ?_
    refine ⟨_, rfl, ?_⟩
    unfold sp_count
    try simp only [List.length_cons, List.length_nil] at h1
    repeat' split
    all_goals first | exact zEM.rd hR | (exfalso; simp only [zi_eq, zi_lt, zi_le, Int32.reduceToInt] at * <;> omega)
  · refine z_al iX11_count_67 rfl ?_
    refine z_gf iX11_count_68 hR.1 rfl ?_
    refine z_iret iX11_count_71 rfl ?_
    refine ⟨_, rfl, ?_⟩
    unfold sp_count
    try simp only [List.length_cons, List.length_nil] at h1
    repeat' split
    all_goals first | exact zEM.rd hR | (exfalso; simp only [zi_eq, zi_lt, zi_le, Int32.reduceToInt] at * <;> omega)
  · refine z_al iX11_count_72 rfl ?_
    refine z_gf iX11_count_73 hR.1 rfl ?_
    refine z_iret iX11_count_76 rfl ?_
    refine ⟨_, rfl, ?_⟩
    unfold sp_count
    try simp only [List.length_cons, List.length_nil] at h1
    repeat' split
    all_goals first | exact zEM.rd hR | (exfalso; simp only [zi_eq, zi_lt, zi_le, Int32.reduceToInt] at * <;> omega)
  · refine z_al iX11_count_77 rfl ?_
    refine z_gf iX11_count_78 hR.1 rfl ?_
    refine z_iret iX11_count_81 rfl ?_
    refine ⟨_, rfl, ?_⟩
    unfold sp_count
    try simp only [List.length_cons, List.length_nil] at h1
    repeat' split
    all_goals first | exact zEM.rd hR | (exfalso; simp only [zi_eq, zi_lt, zi_le, Int32.reduceToInt] at * <;> omega)
  · refine z_al iX11_count_82 rfl ?_
    refine z_gf iX11_count_83 hR.1 rfl ?_
    refine z_iret iX11_count_86 rfl ?_
    refine ⟨_, rfl, ?_⟩
    unfold sp_count
    try simp only [List.length_cons, List.length_nil] at h1
    repeat' split
    all_goals first | exact zEM.rd hR | (exfalso; simp only [zi_eq, zi_lt, zi_le, Int32.reduceToInt] at * <;> omega)
  · refine z_al iX11_count_87 rfl ?_
    refine z_gf iX11_count_88 hR.1 rfl ?_
    refine z_iret iX11_count_91 rfl ?_
    refine ⟨_, rfl, ?_⟩
    unfold sp_count
    try simp only [List.length_cons, List.length_nil] at h1
    repeat' split
    all_goals first | exact zEM.rd hR | (exfalso; simp only [zi_eq, zi_lt, zi_le, Int32.reduceToInt] at * <;> omega)
  · refine z_co iX11_count_92 ?_
    refine z_is iX11_count_93 ?_
    have hw : w = 8 := by
      try simp only [List.length_cons, List.length_nil] at h1
      rw [← Int32.toInt_inj]
      simp only [Int32.reduceToInt]
      omega
    refine z_loc [some (zr (40, 0)), some (zi w), some (zi (cBad A 0)), some (zi (nI 0))] ⟨rfl, rfl, rfl, rfl, trivial⟩ ?_
    refine (l11_count hR hV w (zN (I 0)) 0 (by omega)).mono (fun r M' ⟨x, hr, hm, hx⟩ => ⟨x, hr, ?_⟩)
    subst hm
    refine zM_rd hR ?_
    unfold sp_count
    rw [hw, hx]
    rfl
  · refine z_co iX11_count_127 ?_
    refine z_iret iX11_count_129 rfl ?_
    refine ⟨_, rfl, ?_⟩
    unfold sp_count
    try simp only [List.length_cons, List.length_nil] at h1
    repeat' split
    all_goals first | exact zEM.rd hR | (exfalso; simp only [zi_eq, zi_lt, zi_le, Int32.reduceToInt] at * <;> omega)
theorem zp_count {TR : zTR} {JR : zJR} (w : Int32) : zPI (zInv TR JR) zX10_count zX11_count 0 0 [zi w] :=
  zPI_of (fun I A L => sp_count I A L w) (fun _ _ _ _ _ hf hX hV => px_count (by omega) hX hV w) (fun _ _ _ _ _ _ _ hf hR hV => pm_count (by omega) hR hV w) (fun I A L hV => hV)
