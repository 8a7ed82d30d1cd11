set_option maxRecDepth 20000 in
set_option maxHeartbeats 4000000 in
theorem px_tool {TR : zTR} {JR : zJR} {fr : Nat} {M : zM} {I : zSI} {A : zSA} {L : zSL} (hf : 4 ≤ fr) (hX : RepX TR JR M I A L) (hV : Val I A L) (h : Int32) (e : Int32) (s : Int32) (f : Int32) : zCi zX10_tool fr 1 8 [zr (2, 0), zi h, zi e, zi s, zi f] M (fun x M' => zEX TR JR M x (sp_tool I A L h e s f) M') := by
  refine z_enter (L := [some (zr (2, 0)), some (zi h), some (zi e), some (zi s), some (zi f)]) rfl (by decide +kernel) (Nat.le_of_ble_eq_true rfl) ?_
  have ntool : M (30, zN (I 1)) = none := hX.2.2.1.2 _ (by have e0 : zN (I 1) = (I 1).toInt.toNat := rfl; omega)
  refine z_al iX10_tool_0 rfl ?_
  refine z_il iX10_tool_1 rfl ?_
  refine z_cv1a (fr' := fr - 1) iX10_tool_2 zmX10_edgeOf hX.1.1 (c10_edgeOf (by omega) hX hV _) (by omega) (Nat.le_of_ble_eq_true rfl) (fun x M1 hq => ?_)
  obtain ⟨rfl, rfl⟩ := hq
  refine z_as iX10_tool_5 ?_
  refine z_il iX10_tool_7 rfl ?_
  refine z_co iX10_tool_8 ?_
  refine z_co iX10_tool_10 ?_
  refine z_cs3i (fr' := fr - 1) iX10_tool_13 zmX10_within (c10_within _ _ _) (by omega) (Nat.le_of_ble_eq_true rfl) (fun x M1 hq => ?_)
  obtain ⟨rfl, rfl⟩ := hq
  refine z_ib_eq iX10_tool_16 (fun h1 => ?_) (fun h1 => ?_)
  · refine z_co iX10_tool_41 ?_
    refine z_iret iX10_tool_43 rfl ?_
    have hv1 := hV.1.2.1
    unfold zRg at hv1
    try (have hn := xo_n (by assumption : xo _ _ _ = none))
    refine ⟨_, rfl, ?_⟩
    unfold sp_tool
    repeat' split
    all_goals first | exact zEX.rd hX | (exfalso; simp only [true_and, and_true, false_and, and_false, true_or, or_true, false_or, or_false, not_true_eq_false, not_false_eq_true, zN, zBw, zUnd, zCor, zi_eq, zi_le, zi_lt, Int32.reduceToInt, List.length_cons, List.length_nil] at *; omega)
  · refine z_alo iX10_tool_19 rfl ?_
    refine z_ifnull iX10_tool_21 (fun h2 => ?_) (fun x2 h2 => ?_)
    · refine z_co iX10_tool_41 ?_
      refine z_iret iX10_tool_43 rfl ?_
      have hv1 := hV.1.2.1
      unfold zRg at hv1
      try (have hn := xo_n (by assumption : xo _ _ _ = none))
      refine ⟨_, rfl, ?_⟩
      unfold sp_tool
      repeat' split
      all_goals first | exact zEX.rd hX | (exfalso; simp only [true_and, and_true, false_and, and_false, true_or, or_true, false_or, or_false, not_true_eq_false, not_false_eq_true, zN, zBw, zUnd, zCor, zi_eq, zi_le, zi_lt, Int32.reduceToInt, List.length_cons, List.length_nil] at *; omega)
    · rw [h2]
      obtain ⟨qh2, rfl⟩ := xo_s h2
      have hedge := (hX.2.1.1 _ (zIdx qh2 hV.1.1 (by decide)).2.1).1
      refine z_il iX10_tool_24 rfl ?_
      refine z_co iX10_tool_25 ?_
      refine z_co iX10_tool_26 ?_
      refine z_cs3i (fr' := fr - 1) iX10_tool_27 zmX10_within (c10_within _ _ _) (by omega) (Nat.le_of_ble_eq_true rfl) (fun x M1 hq => ?_)
      obtain ⟨rfl, rfl⟩ := hq
      refine z_ib_eq iX10_tool_30 (fun h3 => ?_) (fun h3 => ?_)
      · refine z_co iX10_tool_41 ?_
        refine z_iret iX10_tool_43 rfl ?_
        have hv1 := hV.1.2.1
        unfold zRg at hv1
        try (have hn := xo_n (by assumption : xo _ _ _ = none))
        refine ⟨_, rfl, ?_⟩
        unfold sp_tool
        repeat' split
        all_goals first | exact zEX.rd hX | (exfalso; simp only [true_and, and_true, false_and, and_false, true_or, or_true, false_or, or_false, not_true_eq_false, not_false_eq_true, zN, zBw, zUnd, zCor, zi_eq, zi_le, zi_lt, Int32.reduceToInt, List.length_cons, List.length_nil] at *; omega)
      · refine z_il iX10_tool_33 rfl ?_
        refine z_cs1i (fr' := fr - 1) iX10_tool_35 zmX10_isFamily (c10_isFamily (by omega) _) (by omega) (Nat.le_of_ble_eq_true rfl) (fun x M1 hq => ?_)
        obtain ⟨rfl, rfl⟩ := hq
        refine z_ib_ne iX10_tool_38 (fun h4 => ?_) (fun h4 => ?_)
        · refine z_al iX10_tool_44 rfl ?_
          refine z_gf iX10_tool_46 hedge rfl ?_
          refine z_co iX10_tool_49 ?_
          refine z_icmp_eq iX10_tool_50 (fun h5 => ?_) (fun h5 => ?_)
          · refine z_al iX10_tool_56 rfl ?_
            refine z_gf iX10_tool_57 hX.1.1 rfl ?_
            refine z_co iX10_tool_60 ?_
            refine z_icmp_lt iX10_tool_62 (fun h6 => ?_) (fun h6 => ?_)
            · refine z_al iX10_tool_68 rfl ?_
              refine z_gf iX10_tool_69 hX.1.1 rfl ?_
              refine z_al iX10_tool_72 rfl ?_
              refine z_gf iX10_tool_73 hX.1.1 rfl ?_
              refine z_new (a := (30, zN (I 1))) iX10_tool_76 zfs_9 rfl ntool (by decide : 2 ≤ 30) ?_
              refine z_dup iX10_tool_79 ?_
              refine z_il iX10_tool_80 rfl ?_
              refine z_il iX10_tool_81 rfl ?_
              refine z_al iX10_tool_82 rfl ?_
              refine z_il iX10_tool_84 rfl ?_
              refine z_il iX10_tool_85 rfl ?_
              refine z_ci5v (fr' := fr - 1) iX10_tool_87 zmX9_init (c9_init (by omega) (by decide : 2 ≤ 30) zupd_s h e s f) (by omega) (Nat.le_of_ble_eq_true rfl) (fun M1 hq => ?_)
              subst hq
              rw [zupd_u]
              refine z_aast iX10_tool_90 ((zupd_k (Nat.ne_of_beq_eq_false rfl)).trans hX.1.2.2.1) (by decide) zupd_s rfl (fun _ => rfl) (zCntL hV.1.2.1 (by decide) rfl h6).1 (zLt2 (N := 10) (zCntL hV.1.2.1 (by decide) rfl h6).2) ?_
              refine z_al iX10_tool_91 rfl ?_
              refine z_al iX10_tool_93 rfl ?_
              refine z_gf iX10_tool_94 ((zupd_k (Nat.ne_of_beq_eq_false rfl)).trans ((zupd_k (Nat.ne_of_beq_eq_false rfl)).trans hX.1.1)) rfl ?_
              refine z_pf iX10_tool_97 ((zupd_k (Nat.ne_of_beq_eq_false rfl)).trans ((zupd_k (Nat.ne_of_beq_eq_false rfl)).trans hedge)) (by decide : 2 ≤ 28) (Nat.le_of_ble_eq_true rfl) trivial ?_
              refine z_al iX10_tool_100 rfl ?_
              refine z_dup iX10_tool_101 ?_
              refine z_gf iX10_tool_102 ((zupd_k (Nat.ne_of_beq_eq_false rfl)).trans ((zupd_k (Nat.ne_of_beq_eq_false rfl)).trans ((zupd_k (Nat.ne_of_beq_eq_false rfl)).trans hX.1.1))) rfl ?_
              refine z_co iX10_tool_105 ?_
              refine z_iadd iX10_tool_106 ?_
              refine z_pf iX10_tool_107 ((zupd_k (Nat.ne_of_beq_eq_false rfl)).trans ((zupd_k (Nat.ne_of_beq_eq_false rfl)).trans ((zupd_k (Nat.ne_of_beq_eq_false rfl)).trans hX.1.1))) (by decide) (Nat.le_of_ble_eq_true rfl) trivial ?_
              refine z_al iX10_tool_110 rfl ?_
              refine z_gf iX10_tool_111 zupd_s rfl ?_
              refine z_co iX10_tool_114 ?_
              refine z_isub iX10_tool_115 ?_
              refine z_iret iX10_tool_116 rfl ?_
              refine ⟨_, rfl, ?_⟩
              unfold sp_tool
              rw [if_neg (fun g => by rcases g with z | z | z | z; exact z h1; exact z qh2; exact z h3; exact z h4), if_neg (fun z => z h5), if_neg (fun g => by have := zi_lt.mp h6; rw [g] at this; exact absurd this (by decide))]
              exact ⟨zp1 _, zfx (zfx (zfx (zfx zfx_nil ⟨(by decide : 2 ≤ 30), (by decide : 30 < 40)⟩) (by decide)) ⟨(by decide : 2 ≤ 28), (by decide : 28 < 40)⟩) (by decide), hX.newTool (A' := sA_tool I A h e s f) (zCntL hV.1.2.1 (by decide) rfl h6).1 (zLt2 (N := 10) (zCntL hV.1.2.1 (by decide) rfl h6).2) (zIdx qh2 hV.1.1 (by decide)).2.1 (fun a g1 g2 g3 g4 => (zupd_n g4).trans ((zupd_n g2).trans ((zupd_n g3).trans (zupd_n g1)))) ((zupd_k (by decide : (30 : Nat) ≠ 2)).trans ((zupd_k (by decide : (30 : Nat) ≠ 28)).trans ((zupd_k (by decide : (30 : Nat) ≠ 4)).trans (zupd_s.trans (by simp [xTool, sA_tool, zA2, zup]))))) ((zupd_k (by decide : (28 : Nat) ≠ 2)).trans (zupd_s.trans (by simp [xEdge, sA_tool, zA2, zup]))) ((zupd_k (by decide : (4 : Nat) ≠ 2)).trans ((zupd_k (by decide : (4 : Nat) ≠ 28)).trans (zupd_s.trans (by rw [xRefs_up (zCntL hV.1.2.1 (by decide) rfl h6).1 (by have g8 := (zCntL hV.1.2.1 (by decide) rfl h6); omega)])))) (zupd_s.trans rfl) (fun k g1 g2 g3 => by unfold sA_tool; rw [zA2_row g2, zA2_row (by omega), zA2_row (by omega), zA2_row (by omega), zA2_row (by omega), zA2_row (by omega), zA2_row (by omega), zA2_row (by omega)]) (fun k j g1 g2 => by unfold sA_tool; rw [zA2_row g1, zA2_col g2, zA2_col g2, zA2_col g2, zA2_col g2, zA2_col g2, zA2_col g2, zA2_col g2]) (fun j g1 => by unfold sA_tool; rw [zA2_col g1, zA2_row (by decide), zA2_row (by decide), zA2_row (by decide), zA2_row (by decide), zA2_row (by decide), zA2_row (by decide), zA2_row (by decide)])⟩
            · refine z_co iX10_tool_65 ?_
              refine z_iret iX10_tool_67 rfl ?_
              have hv1 := hV.1.2.1
              unfold zRg at hv1
              try (have hn := xo_n (by assumption : xo _ _ _ = none))
              refine ⟨_, rfl, ?_⟩
              unfold sp_tool
              repeat' split
              all_goals first | exact zEX.rd hX | (exfalso; simp only [true_and, and_true, false_and, and_false, true_or, or_true, false_or, or_false, not_true_eq_false, not_false_eq_true, zN, zBw, zUnd, zCor, zi_eq, zi_le, zi_lt, Int32.reduceToInt, List.length_cons, List.length_nil] at *; omega)
          · refine z_co iX10_tool_53 ?_
            refine z_iret iX10_tool_55 rfl ?_
            have hv1 := hV.1.2.1
            unfold zRg at hv1
            try (have hn := xo_n (by assumption : xo _ _ _ = none))
            refine ⟨_, rfl, ?_⟩
            unfold sp_tool
            repeat' split
            all_goals first | exact zEX.rd hX | (exfalso; simp only [true_and, and_true, false_and, and_false, true_or, or_true, false_or, or_false, not_true_eq_false, not_false_eq_true, zN, zBw, zUnd, zCor, zi_eq, zi_le, zi_lt, Int32.reduceToInt, List.length_cons, List.length_nil] at *; omega)
        · refine z_co iX10_tool_41 ?_
          refine z_iret iX10_tool_43 rfl ?_
          have hv1 := hV.1.2.1
          unfold zRg at hv1
          try (have hn := xo_n (by assumption : xo _ _ _ = none))
          refine ⟨_, rfl, ?_⟩
          unfold sp_tool
          repeat' split
          all_goals first | exact zEX.rd hX | (exfalso; simp only [true_and, and_true, false_and, and_false, true_or, or_true, false_or, or_false, not_true_eq_false, not_false_eq_true, zN, zBw, zUnd, zCor, zi_eq, zi_le, zi_lt, Int32.reduceToInt, List.length_cons, List.length_nil] at *; omega)
