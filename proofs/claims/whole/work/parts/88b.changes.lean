theorem jv_f {I : zSI} {A : zSA} {L : zSL} (hV : Val I A L) : I 9 = nI (zN (I 9)) ∧ zN (I 9) ≤ 6 ∧ ∀ j, j < zN (I 9) → A 25 j = nI (zN (A 25 j)) ∧ zN (A 25 j) < 1024 := by
  obtain ⟨e9, l9⟩ := zI9 hV
  refine ⟨?_, l9, fun j hj => ?_⟩
  · rw [← Int32.toInt_inj, nI_toInt (by omega)]
    exact e9
  · obtain ⟨a1, a2⟩ := hV.2.2.2.2.2.1 j (by omega) (by omega)
    have e0 : zN (A 25 j) = (A 25 j).toInt.toNat := rfl
    refine ⟨?_, by omega⟩
    rw [← Int32.toInt_inj, nI_toInt (by omega)]
    omega
theorem zR9 {r : Int32} (h : zBw r 1 9) : r = nI (zN r) ∧ 1 ≤ zN r ∧ zN r ≤ 9 := by
  obtain ⟨h1, h2⟩ := h
  have e0 : zN r = r.toInt.toNat := rfl
  rw [zi_le] at h1 h2
  simp only [Int32.reduceToInt] at h1 h2
  refine ⟨?_, by omega, by omega⟩
  rw [← Int32.toInt_inj, nI_toInt (by omega)]
  omega
theorem mk_full : ∀ N, N ≤ 6 → (1 : Int32) <<< (nI N &&& 31) - 1 = nI (2 ^ N - 1) := by decide +kernel
abbrev chG (I : zSI) (o : Int64) (r : Int32) : Prop := zBw r 1 9 ∧ 0 ≤ o.toInt ∧ rdG o.toInt.toNat (zN (I 9))
def sp_changes (I : zSI) (A : zSA) (L : zSL) (o : Int64) (r : Int32) : zRes := (if chG I o r then chV (fun i => zN (A 25 (dgt o.toInt.toNat i))) (zN (I 9)) (zN r) else -2, I, A, L)
theorem sp_chN {I : zSI} {A : zSA} {L : zSL} {o : Int64} {r : Int32} (h : ¬ chG I o r) : sp_changes I A L o r = (-2, I, A, L) := by unfold sp_changes; rw [if_neg h]
theorem sp_chY {I : zSI} {A : zSA} {L : zSL} {o : Int64} {r : Int32} (h : chG I o r) : sp_changes I A L o r = (chV (fun i => zN (A 25 (dgt o.toInt.toNat i))) (zN (I 9)) (zN r), I, A, L) := by unfold sp_changes; rw [if_pos h]
/-- the class's row is written anew -/
theorem RepX.row {TR : zTR} {JR : zJR} {M : zM} {I : zSI} {A : zSA} {L : zSL} {r2 : Nat → Int32} (h : RepX TR JR M I A L) : RepX TR JR (zupd M (15, 0) (.inl (0, 6, .inl r2))) I A L := by
  obtain ⟨jr, jf, jb, k0, k1, k2, k3, k4, k5, k6⟩ := h.2.2.2.2.2.2.2.2
  exact h.jobs (fun a _ _ a3 _ _ => zupd_k a3) ⟨r2, jf, jb, (zupd_k (by decide : (9 : Nat) ≠ 15)).trans k0, (zupd_k (by decide : (14 : Nat) ≠ 15)).trans k1, zupd_s, (zupd_k (by decide : (16 : Nat) ≠ 15)).trans k3, (zupd_k (by decide : (17 : Nat) ≠ 15)).trans k4, fun r hr => (zupd_k (by decide : (18 : Nat) ≠ 15)).trans (k5 r hr), k6⟩ (fun _ _ => rfl) (fun _ _ _ => rfl)
theorem zEX.row {TR : zTR} {JR : zJR} {M : zM} {I : zSI} {A : zSA} {L : zSL} {r2 : Nat → Int32} (h : RepX TR JR M I A L) {x : Int32} : zEX TR JR M x (x, I, A, L) (zupd M (15, 0) (.inl (0, 6, .inl r2))) := zEX.wr h.row (zfx zfx_nil ⟨(by decide : 2 ≤ 15), (by decide : 15 < 40)⟩)
theorem zEM.row {M : zM} {I J : zSI} {A : zSA} {L : zSL} {K : Int64} {rr : Nat → Int32} (h : RepM M I A L J K) {x : Int32} : zEM M x (x, I, A, L) (zupd M (41, 30) (.inl (0, 6, .inl rr))) := ⟨rfl, zfr zfr_nil (by decide), zup A 30 rr, J, K, fun k hk => zup_n (by omega), h.arr 30 rr⟩
set_option maxRecDepth 20000 in
set_option maxHeartbeats 4000000 in
theorem px_changes {TR : zTR} {JR : zJR} {fr : Nat} {M : zM} {I : zSI} {A : zSA} {L : zSL} (hf : 5 ≤ fr) (hX : RepX TR JR M I A L) (hV : Val I A L) (o : Int64) (r : Int32) : zCi zX10_changes fr 0 0 [zr (2, 0), zl o, zi r] M (fun x M' => zEX TR JR M x (sp_changes I A L o r) M') := by
  refine z_enter (L := [some (zr (2, 0)), some (zl o), none, some (zi r)]) rfl (by decide +kernel) (Nat.le_of_ble_eq_true rfl) ?_
  obtain ⟨j9, jN, jw⟩ := jv_f hV
  obtain ⟨jr, jf, jb, hjobs, k1, k2, k3, k4, k5, -⟩ := hX.2.2.2.2.2.2.2.2
  rw [j9] at hjobs
  refine z_il iX10_changes_0 rfl ?_
  refine z_co iX10_changes_1 ?_
  refine z_co iX10_changes_2 ?_
  refine z_cs3i (fr' := fr - 1) iX10_changes_4 zmX10_within (c10_within _ _ _) (by omega) (Nat.le_of_ble_eq_true rfl) (fun x M1 hq => ?_)
  obtain ⟨rfl, rfl⟩ := hq
  refine z_ib_eq iX10_changes_7 (fun h1 => ?_) (fun h1 => ?_)
  · refine z_co iX10_changes_21 ?_
    refine z_iret iX10_changes_23 rfl ?_
    refine ⟨_, rfl, ?_⟩
    first
    | (rw [sp_chN (fun q => h2 q.2)]; exact zEX.row hX)
    | (rw [sp_chN (fun q => h1 q.1)]; exact zEX.rd hX)
  · refine z_al iX10_changes_10 rfl ?_
    refine z_gf iX10_changes_11 hX.1.1 rfl ?_
    refine z_ll iX10_changes_14 rfl ?_
    refine z_cv1i (fr' := fr - 1) iX10_changes_15 zmX1_readOrder hjobs (c1_readOrder hjobs jN k2) (by omega) (Nat.le_of_ble_eq_true rfl) (fun x M1 hq => ?_)
    obtain ⟨r2, rfl, rfl, hr2⟩ := hq
    refine z_ib_ne iX10_changes_18 (fun h2 => ?_) (fun h2 => ?_)
    · refine z_al iX10_changes_24 rfl ?_
      refine z_gf iX10_changes_25 ((zupd_k (Nat.ne_of_beq_eq_false rfl)).trans hX.1.1) rfl ?_
      refine z_il (x := nI (zN r)) iX10_changes_28 (by rw [← (zR9 h1).1]; rfl) ?_
      refine z_cv1i (fr' := fr - 1) iX10_changes_29 zmX1_changesOfRow ((zupd_k (Nat.ne_of_beq_eq_false rfl)).trans hjobs) (c1_changesOfRow (N := zN (I 9)) (R := zN r) (W := fun j => zN (A 25 j)) (P := dgt o.toInt.toNat) ⟨⟨A 25, r2, (zupd_k (by decide : (9 : Nat) ≠ 15)).trans hjobs, (zupd_k (by decide : (14 : Nat) ≠ 15)).trans k1, zupd_s, fun j hj => (jw j hj).1, hr2 h2⟩, jN, fun j hj => (jw j hj).2, h2.2.1⟩ (by omega) (zR9 h1).2.2) (by omega) (Nat.le_of_ble_eq_true rfl) (fun x M1 hq => ?_)
      obtain ⟨rfl, hx⟩ := hq
      refine z_iret iX10_changes_32 rfl ?_
      refine ⟨_, rfl, ?_⟩
      have e := chX_V (V := fun i => zN (A 25 (dgt o.toInt.toNat i))) (fun i hi => (jw _ (h2.2.1 i hi)).2) hx
      rw [sp_chY ⟨h1, h2⟩, ← e]
      exact zEX.row hX
    · refine z_co iX10_changes_21 ?_
      refine z_iret iX10_changes_23 rfl ?_
      refine ⟨_, rfl, ?_⟩
      first
      | (rw [sp_chN (fun q => h2 q.2)]; exact zEX.row hX)
      | (rw [sp_chN (fun q => h1 q.1)]; exact zEX.rd hX)
set_option maxRecDepth 20000 in
set_option maxHeartbeats 4000000 in
theorem l11_read {fr : Nat} {M : zM} {I J : zSI} {A : zSA} {L : zSL} {K : Int64} (hf : 5 ≤ fr) (hR : RepM M I A L J K) (hV : Val I A L) {o : Int64} {r : Int32} {N : Nat} (hN9 : N = zN (I 9)) (hr : zBw r 1 9) (ho : 0 ≤ o.toInt)  : ∀ (n i : Nat), i + n = N → ∀ (x : Int64) (rr : Nat → Int32), x.toInt = ((o.toInt.toNat / 6 ^ i : Nat) : Int) → (∀ k, k < i → dgt o.toInt.toNat k < N ∧ rr k = nI (dgt o.toInt.toNat k)) → zV zX11_changes fr 0 0 28 (zL [some (zr (40, 0)), some (zl o), none, some (zi r), some (zl x), none, some (zi (nI (rdS o.toInt.toNat i))), some (zi (nI i))]) [] (zupd M (41, 30) (.inl (0, 6, .inl rr))) (fun z M' => ∃ y, z = some (zi y) ∧ zEM M y (sp_changes I A L o r) M') := by
  intro n
  induction n with
  | zero =>
    intro i  hn x rr hx hall
    obtain ⟨j9, jN, jw⟩ := jv_f hV
    rw [← hN9] at j9 jN jw
    have eN := nI_toInt (n := N) (by omega)
    have ei := nI_toInt (n := i) (by omega)
    have hd6 := dgt_6 o.toInt.toNat i
    have ed := nI_toInt (n := dgt o.toInt.toNat i) (by omega)
    refine z_il iX11_changes_28 rfl ?_
    refine z_al iX11_changes_30 rfl ?_
    refine z_gf iX11_changes_31 ((zupd_k (Nat.ne_of_beq_eq_false rfl)).trans hR.1) rfl ?_
    refine z_icmp_ge iX11_changes_34 (fun h1 => ?_) (fun h1 => ?_)
    · have hiN : i = N := by omega
      rw [hiN] at hx hall ⊢
      refine z_ll iX11_changes_96 rfl ?_
      refine z_cl iX11_changes_98 ?_
      refine z_lcmp iX11_changes_99 ?_
      refine z_if_ne iX11_changes_100 (fun h2 => ?_) (fun h2 => ?_)
      · refine z_co iX11_changes_116 ?_
        refine z_iret iX11_changes_118 rfl ?_
        refine ⟨_, rfl, ?_⟩
        rw [sp_chN (fun q => ?_)]
        · exact zEM.row hR
        · have g := q.2.2
          rw [← hN9] at g
          first
          | (rw [lgc_0] at h2; have := g.2.2; omega)
          | exact h3 (congrArg nI ((rdS_full jN g.1).mpr g.2.1))
      · refine z_il iX11_changes_103 rfl ?_
        refine z_co iX11_changes_105 ?_
        refine z_al iX11_changes_106 rfl ?_
        refine z_gf iX11_changes_107 ((zupd_k (Nat.ne_of_beq_eq_false rfl)).trans hR.1) rfl ?_
        refine z_ishl iX11_changes_110 ?_
        refine z_co iX11_changes_111 ?_
        refine z_isub iX11_changes_112 ?_
        rw [j9, mk_full _ jN]
        refine z_icmp_eq iX11_changes_113 (fun h3 => ?_) (fun h3 => ?_)
        · have hG : rdG o.toInt.toNat N := by
            refine ⟨fun k hk => (hall k hk).1, ?_, by rw [lgc_0] at h2; omega⟩
            rw [zi_eq, nI_toInt (by have := rdS_lt (m := o.toInt.toNat) N; omega), nI_toInt (by have : 2 ^ N ≤ 2 ^ 6 := Nat.pow_le_pow_right (by decide) jN; omega)] at h3
            exact (rdS_full jN (fun k hk => (hall k hk).1)).mp (by omega)
          have hon : (∀ j, j < N → zPop ((fun j => zN (A 25 j)) j) ≤ zN r) ↔ ∀ i, i < N → zPop ((fun j => zN (A 25 j)) (dgt o.toInt.toNat i)) ≤ zN r := ⟨fun q i hi => q _ (hG.1 i hi), fun q j hj => by
            obtain ⟨k, k1, k2⟩ := rdG_on jN hG hj
            have := q k k1
            rw [k2] at this
            exact this⟩
          refine z_al iX11_changes_119 rfl ?_
          refine z_il (x := nI (zN r)) iX11_changes_120 (by rw [← (zR9 hr).1]; rfl) ?_
          refine z_cv1i (fr' := fr - 1) iX11_changes_121 zmX11_isRoom ((zupd_k (Nat.ne_of_beq_eq_false rfl)).trans hR.1) (c11_isRoom (hR.arr 30 rr) (N := N) (R := zN r) (W := (fun j => zN (A 25 j))) j9 (fun j hj => (congrFun (zup_n (by decide : (25 : Nat) ≠ 30)) j).trans (jw j hj).1) jN (fun j hj => (jw j hj).2) (by omega) (zR9 hr).2.2) (by omega) (Nat.le_of_ble_eq_true rfl) (fun x M1 hq => ?_)
          obtain ⟨rfl, rfl⟩ := hq
          refine z_ib_eq iX11_changes_124 (fun h4 => ?_) (fun h4 => ?_)
          · refine z_co iX11_changes_135 ?_
            refine z_iret iX11_changes_136 rfl ?_
            refine ⟨_, rfl, ?_⟩
            rw [sp_chY ⟨hr, ho, by rw [← hN9]; exact hG⟩, ← hN9]
            first
            | (rw [show chV (fun i => zN (A 25 (dgt o.toInt.toNat i))) N (zN r) = -1 from if_neg (fun q => h4 (hon.mpr q))]; exact zEM.row hR)
            | (rw [show chV (fun i => zN (A 25 (dgt o.toInt.toNat i))) N (zN r) = _ from if_pos (hon.mp h4)]; exact zEM.row hR)
          · refine z_al iX11_changes_127 rfl ?_
            refine z_il (x := nI (zN r)) iX11_changes_128 (by rw [← (zR9 hr).1]; rfl) ?_
            refine z_cv1i (fr' := fr - 1) iX11_changes_129 zmX11_changesOf ((zupd_k (Nat.ne_of_beq_eq_false rfl)).trans hR.1) (c11_changesOf (hR.arr 30 rr) (N := N) (R := zN r) (W := (fun j => zN (A 25 j))) (P := dgt o.toInt.toNat) ⟨j9, (fun j hj => (congrFun (zup_n (by decide : (25 : Nat) ≠ 30)) j).trans (jw j hj).1), fun k hk => (congrFun (zup_s (f := A)) k).trans (hall k hk).2, jN, fun j hj => (jw j hj).2, hG.1⟩ (by omega) (hon.mp h4) (zR9 hr).2.2) (by omega) (Nat.le_of_ble_eq_true rfl) (fun x M1 hq => ?_)
            obtain ⟨rfl, rfl⟩ := hq
            refine z_goto iX11_changes_132 ?_
            refine z_iret iX11_changes_136 rfl ?_
            refine ⟨_, rfl, ?_⟩
            rw [sp_chY ⟨hr, ho, by rw [← hN9]; exact hG⟩, ← hN9]
            first
            | (rw [show chV (fun i => zN (A 25 (dgt o.toInt.toNat i))) N (zN r) = -1 from if_neg (fun q => h4 (hon.mpr q))]; exact zEM.row hR)
            | (rw [show chV (fun i => zN (A 25 (dgt o.toInt.toNat i))) N (zN r) = _ from if_pos (hon.mp h4)]; exact zEM.row hR)
        · refine z_co iX11_changes_116 ?_
          refine z_iret iX11_changes_118 rfl ?_
          refine ⟨_, rfl, ?_⟩
          rw [sp_chN (fun q => ?_)]
          · exact zEM.row hR
          · have g := q.2.2
            rw [← hN9] at g
            first
            | (rw [lgc_0] at h2; have := g.2.2; omega)
            | exact h3 (congrArg nI ((rdS_full jN g.1).mpr g.2.1))
    · exfalso
      simp only [j9, zi_le, eN, ei] at h1
      omega
  | succ n ih =>
    intro i  hn x rr hx hall
    obtain ⟨j9, jN, jw⟩ := jv_f hV
    rw [← hN9] at j9 jN jw
    have eN := nI_toInt (n := N) (by omega)
    have ei := nI_toInt (n := i) (by omega)
    have hd6 := dgt_6 o.toInt.toNat i
    have ed := nI_toInt (n := dgt o.toInt.toNat i) (by omega)
    refine z_il iX11_changes_28 rfl ?_
    refine z_al iX11_changes_30 rfl ?_
    refine z_gf iX11_changes_31 ((zupd_k (Nat.ne_of_beq_eq_false rfl)).trans hR.1) rfl ?_
    refine z_icmp_ge iX11_changes_34 (fun h1 => ?_) (fun h1 => ?_)
    · exfalso
      simp only [j9, zi_le, eN, ei] at h1
      omega
    · refine z_al iX11_changes_37 rfl ?_
      refine z_gf iX11_changes_38 ((zupd_k (Nat.ne_of_beq_eq_false rfl)).trans hR.1) rfl ?_
      refine z_il iX11_changes_41 rfl ?_
      refine z_ll iX11_changes_43 rfl ?_
      refine z_cl iX11_changes_45 ?_
      refine z_lrem iX11_changes_48 (by decide) ?_
      refine z_l2i iX11_changes_49 ?_
      rw [l6_rem hx, show o.toInt.toNat / 6 ^ i % 6 = dgt o.toInt.toNat i from rfl]
      refine z_iast2 iX11_changes_50 (show 2 ≤ 41 by decide) ei (show i < 6 by omega) ?_
      refine z_ll iX11_changes_51 rfl ?_
      refine z_cl iX11_changes_53 ?_
      refine z_ldiv iX11_changes_56 (by decide) ?_
      refine z_ls iX11_changes_57 ?_
      refine z_al iX11_changes_59 rfl ?_
      refine z_gf iX11_changes_60 ((zupd_k (Nat.ne_of_beq_eq_false rfl)).trans hR.1) rfl ?_
      refine z_il iX11_changes_63 rfl ?_
      refine z_iald iX11_changes_65 zupd_s ei (show i < 6 by omega) ?_
      rw [zup_s]
      refine z_al iX11_changes_66 rfl ?_
      refine z_gf iX11_changes_67 ((zupd_k (Nat.ne_of_beq_eq_false rfl)).trans hR.1) rfl ?_
      refine z_icmp_lt iX11_changes_70 (fun h2 => ?_) (fun h2 => ?_)
      · have hlt : dgt o.toInt.toNat i < N := by
          simp only [j9, zi_lt, ed, eN] at h2
          omega
        refine z_il iX11_changes_76 rfl ?_
        refine z_co iX11_changes_78 ?_
        refine z_al iX11_changes_79 rfl ?_
        refine z_gf iX11_changes_80 ((zupd_k (Nat.ne_of_beq_eq_false rfl)).trans hR.1) rfl ?_
        refine z_il iX11_changes_83 rfl ?_
        refine z_iald iX11_changes_85 zupd_s ei (show i < 6 by omega) ?_
        rw [zup_s]
        refine z_ishl iX11_changes_86 ?_
        refine z_ior iX11_changes_87 ?_
        refine z_is iX11_changes_88 ?_
        refine z_in iX11_changes_90 rfl ?_
        refine z_goto iX11_changes_93 ?_
        refine z_loc [some (zr (40, 0)), some (zl o), none, some (zi r), some (zl (x / 6)), none, some (zi (nI (rdS o.toInt.toNat (i + 1)))), some (zi (nI (i + 1)))] ⟨rfl, rfl, rfl, rfl, ?_, ?_, trivial⟩ (ih (i + 1) (by omega) (x / 6) _ ?_ ?_)
        · show some (zi (nI (rdS o.toInt.toNat i) ||| (1 : Int32) <<< (nI (dgt o.toInt.toNat i) &&& 31))) = _
          rw [mk_bit _ (by omega), mk_or]; rfl
        · show some (zi (nI i + 1)) = _
          rw [nI_1]
        · rw [l6_div hx, dgt_s]
        · intro k hk
          by_cases z : k = i
          · subst z
            exact ⟨hlt, zup_s⟩
          · have a := hall k (by omega)
            exact ⟨a.1, (zup_n z).trans a.2⟩
      · refine z_co iX11_changes_73 ?_
        refine z_iret iX11_changes_75 rfl ?_
        refine ⟨_, rfl, ?_⟩
        rw [sp_chN (fun q => ?_)]
        · exact zEM.row hR
        · have g := q.2.2
          rw [← hN9] at g
          have g2 := g.1 i (by omega)
          simp only [j9, zi_lt, ed, eN] at h2
          omega
set_option maxRecDepth 20000 in
set_option maxHeartbeats 4000000 in
theorem pm_changes {fr : Nat} {M : zM} {I J : zSI} {A : zSA} {L : zSL} {K : Int64} (hf : 5 ≤ fr) (hR : RepM M I A L J K) (hV : Val I A L) (o : Int64) (r : Int32) : zCi zX11_changes fr 0 0 [zr (40, 0), zl o, zi r] M (fun x M' => zEM M x (sp_changes I A L o r) M') := by
  refine z_enter (L := [some (zr (40, 0)), some (zl o), none, some (zi r)]) rfl (by decide +kernel) (Nat.le_of_ble_eq_true rfl) ?_
  refine z_il iX11_changes_0 rfl ?_
  refine z_co iX11_changes_1 ?_
  refine z_co iX11_changes_2 ?_
  refine z_cs3i (fr' := fr - 1) iX11_changes_4 zmX11_in (c11_in _ _ _) (by omega) (Nat.le_of_ble_eq_true rfl) (fun x M1 hq => ?_)
  obtain ⟨rfl, rfl⟩ := hq
  refine z_ib_eq iX11_changes_7 (fun h1 => ?_) (fun h1 => ?_)
  · refine z_co iX11_changes_16 ?_
    refine z_iret iX11_changes_18 rfl ?_
    refine ⟨_, rfl, ?_⟩
    first
    | (rw [sp_chN (fun q => h2 (lgc_ge.mpr q.2.1))]; exact zEM.rd hR)
    | (rw [sp_chN (fun q => h1 q.1)]; exact zEM.rd hR)
  · refine z_ll iX11_changes_10 rfl ?_
    refine z_cl iX11_changes_11 ?_
    refine z_lcmp iX11_changes_12 ?_
    refine z_if_ge iX11_changes_13 (fun h2 => ?_) (fun h2 => ?_)
    · have ho := lgc_ge.mp h2
      refine z_ll iX11_changes_19 rfl ?_
      refine z_ls iX11_changes_20 ?_
      refine z_co iX11_changes_22 ?_
      refine z_is iX11_changes_23 ?_
      refine z_co iX11_changes_25 ?_
      refine z_is iX11_changes_26 ?_
      refine z_loc [some (zr (40, 0)), some (zl o), none, some (zi r), some (zl o), none, some (zi (nI 0)), some (zi (nI 0))] ⟨rfl, rfl, rfl, rfl, rfl, rfl, trivial⟩ ?_
      have j9 := jv_f hV
      have e30 := zupd_same (a := (41, 30)) (e := .inl (0, 6, .inl (A 30))) (hR.2.1 30 (by decide))
      have h9 := l11_read hf hR hV rfl h1 ho (zN (I 9)) 0 (by omega) o (A 30) (by rw [Nat.pow_zero, Nat.div_one]; omega) (fun k hk => absurd hk (Nat.not_lt_zero k))
      rw [e30] at h9
      exact h9
    · refine z_co iX11_changes_16 ?_
      refine z_iret iX11_changes_18 rfl ?_
      refine ⟨_, rfl, ?_⟩
      first
      | (rw [sp_chN (fun q => h2 (lgc_ge.mpr q.2.1))]; exact zEM.rd hR)
      | (rw [sp_chN (fun q => h1 q.1)]; exact zEM.rd hR)
theorem zp_changes {TR : zTR} {JR : zJR} (q : Int64) (r : Int32) : zPI (zInv TR JR) zX10_changes zX11_changes 0 0 [zl q, zi r] :=
  zPI_of (fun I A L => sp_changes I A L q r) (fun _ _ _ _ _ hf hX hV => px_changes (by omega) hX hV q r) (fun _ _ _ _ _ _ _ hf hR hV => pm_changes (by omega) hR hV q r) (fun I A L hV => hV)
