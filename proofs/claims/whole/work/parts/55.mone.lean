set_option maxRecDepth 20000 in
theorem tkWord_c (ds : List Nat) : (tkWord ds = -1 ↔ ds = [3, 21, 20, 19]) ∧ (tkWord ds = -2 ↔ ds = [19, 16, 5, 5, 4]) ∧ (tkWord ds = -3 ↔ ds = [19, 20, 21, 6, 6]) ∧ (tkWord ds = -4 ↔ ds = [12, 9, 6, 5]) ∧ (tkWord ds = -5 ↔ ds = [18, 5, 1, 4, 9, 14, 7]) ∧ (tkWord ds = -6 ↔ ds = [14, 15, 13, 9, 14, 1, 12]) ∧ (tkWord ds = -22 ↔ ds = [23, 15, 18, 14]) ∧ (tkWord ds = -23 ↔ ds = [2, 18, 15, 11, 5, 14]) ∧ (tkWord ds = -24 ↔ ds = [3, 8, 5, 3, 11]) ∧ (tkWord ds = -15 ↔ ds = [15, 18]) ∧ (tkWord ds = -14 ↔ ds = [1, 14, 4]) ∧ (tkWord ds = -8 ↔ ds = [14, 15, 20]) := by
  by_cases h0 : ds = [3, 21, 20, 19]
  · subst h0; decide
  by_cases h1 : ds = [19, 16, 5, 5, 4]
  · subst h1; decide
  by_cases h2 : ds = [19, 20, 21, 6, 6]
  · subst h2; decide
  by_cases h3 : ds = [12, 9, 6, 5]
  · subst h3; decide
  by_cases h4 : ds = [18, 5, 1, 4, 9, 14, 7]
  · subst h4; decide
  by_cases h5 : ds = [14, 15, 13, 9, 14, 1, 12]
  · subst h5; decide
  by_cases h6 : ds = [23, 15, 18, 14]
  · subst h6; decide
  by_cases h7 : ds = [2, 18, 15, 11, 5, 14]
  · subst h7; decide
  by_cases h8 : ds = [3, 8, 5, 3, 11]
  · subst h8; decide
  by_cases h9 : ds = [15, 18]
  · subst h9; decide
  by_cases h10 : ds = [1, 14, 4]
  · subst h10; decide
  by_cases h11 : ds = [14, 15, 20]
  · subst h11; decide
  have e : tkWord ds = -21 := by
    unfold tkWord
    rw [if_neg h0, if_neg h1, if_neg h2, if_neg h3, if_neg h4, if_neg h5, if_neg h6, if_neg h7, if_neg h8, if_neg h9, if_neg h10, if_neg h11]
  rw [e]
  exact ⟨⟨fun q => absurd q (by decide), fun q => absurd q h0⟩, ⟨fun q => absurd q (by decide), fun q => absurd q h1⟩, ⟨fun q => absurd q (by decide), fun q => absurd q h2⟩, ⟨fun q => absurd q (by decide), fun q => absurd q h3⟩, ⟨fun q => absurd q (by decide), fun q => absurd q h4⟩, ⟨fun q => absurd q (by decide), fun q => absurd q h5⟩, ⟨fun q => absurd q (by decide), fun q => absurd q h6⟩, ⟨fun q => absurd q (by decide), fun q => absurd q h7⟩, ⟨fun q => absurd q (by decide), fun q => absurd q h8⟩, ⟨fun q => absurd q (by decide), fun q => absurd q h9⟩, ⟨fun q => absurd q (by decide), fun q => absurd q h10⟩, ⟨fun q => absurd q (by decide), fun q => absurd q h11⟩⟩

theorem mw_cuts : ∀ (T j3 : Int32) (K : Int64), mkTok T j3 K → ((j3 = 1 ∧ K = 74917) ↔ T = -1) := fun _ _ _ h => mk_word h (D := [3, 21, 20, 19]) (W := 74917) (fun ds => (tkWord_c ds).1) (by decide +kernel) (by decide +kernel) (by decide +kernel) (by decide) (by decide) rfl
theorem mw_speed : ∀ (T j3 : Int32) (K : Int64), mkTok T j3 K → ((j3 = 1 ∧ K = 10416091) ↔ T = -2) := fun _ _ _ h => mk_word h (D := [19, 16, 5, 5, 4]) (W := 10416091) (fun ds => (tkWord_c ds).2.1) (by decide +kernel) (by decide +kernel) (by decide +kernel) (by decide) (by decide) rfl
theorem mw_stuff : ∀ (T j3 : Int32) (K : Int64), mkTok T j3 K → ((j3 = 1 ∧ K = 10506516) ↔ T = -3) := fun _ _ _ h => mk_word h (D := [19, 20, 21, 6, 6]) (W := 10506516) (fun ds => (tkWord_c ds).2.2.1) (by decide +kernel) (by decide +kernel) (by decide +kernel) (by decide) (by decide) rfl
theorem mw_life : ∀ (T j3 : Int32) (K : Int64), mkTok T j3 K → ((j3 = 1 ∧ K = 242924) ↔ T = -4) := fun _ _ _ h => mk_word h (D := [12, 9, 6, 5]) (W := 242924) (fun ds => (tkWord_c ds).2.2.2.1) (by decide +kernel) (by decide +kernel) (by decide +kernel) (by decide) (by decide) rfl
theorem mw_reading : ∀ (T j3 : Int32) (K : Int64), mkTok T j3 K → ((j3 = 1 ∧ K = 7045930456) ↔ T = -5) := fun _ _ _ h => mk_word h (D := [18, 5, 1, 4, 9, 14, 7]) (W := 7045930456) (fun ds => (tkWord_c ds).2.2.2.2.1) (by decide +kernel) (by decide +kernel) (by decide +kernel) (by decide) (by decide) rfl
theorem mw_nominal : ∀ (T j3 : Int32) (K : Int64), mkTok T j3 K → ((j3 = 1 ∧ K = 5646216576) ↔ T = -6) := fun _ _ _ h => mk_word h (D := [14, 15, 13, 9, 14, 1, 12]) (W := 5646216576) (fun ds => (tkWord_c ds).2.2.2.2.2.1) (by decide +kernel) (by decide +kernel) (by decide +kernel) (by decide) (by decide) rfl
theorem mw_worn : ∀ (T j3 : Int32) (K : Int64), mkTok T j3 K → ((j3 = 1 ∧ K = 464144) ↔ T = -22) := fun _ _ _ h => mk_word h (D := [23, 15, 18, 14]) (W := 464144) (fun ds => (tkWord_c ds).2.2.2.2.2.2.1) (by decide +kernel) (by decide +kernel) (by decide +kernel) (by decide) (by decide) rfl
theorem mw_broken : ∀ (T j3 : Int32) (K : Int64), mkTok T j3 K → ((j3 = 1 ∧ K = 38567165) ↔ T = -23) := fun _ _ _ h => mk_word h (D := [2, 18, 15, 11, 5, 14]) (W := 38567165) (fun ds => (tkWord_c ds).2.2.2.2.2.2.2.1) (by decide +kernel) (by decide +kernel) (by decide +kernel) (by decide) (by decide) rfl
theorem mw_check : ∀ (T j3 : Int32) (K : Int64), mkTok T j3 K → ((j3 = 1 ∧ K = 1755524) ↔ T = -24) := fun _ _ _ h => mk_word h (D := [3, 8, 5, 3, 11]) (W := 1755524) (fun ds => (tkWord_c ds).2.2.2.2.2.2.2.2.1) (by decide +kernel) (by decide +kernel) (by decide +kernel) (by decide) (by decide) rfl
theorem mw_or : ∀ (T j3 : Int32) (K : Int64), mkTok T j3 K → ((j3 = 1 ∧ K = 423) ↔ T = -15) := fun _ _ _ h => mk_word h (D := [15, 18]) (W := 423) (fun ds => (tkWord_c ds).2.2.2.2.2.2.2.2.2.1) (by decide +kernel) (by decide +kernel) (by decide +kernel) (by decide) (by decide) rfl
theorem mw_and : ∀ (T j3 : Int32) (K : Int64), mkTok T j3 K → ((j3 = 1 ∧ K = 1111) ↔ T = -14) := fun _ _ _ h => mk_word h (D := [1, 14, 4]) (W := 1111) (fun ds => (tkWord_c ds).2.2.2.2.2.2.2.2.2.2.1) (by decide +kernel) (by decide +kernel) (by decide +kernel) (by decide) (by decide) rfl
theorem mw_not : ∀ (T j3 : Int32) (K : Int64), mkTok T j3 K → ((j3 = 1 ∧ K = 10631) ↔ T = -8) := fun _ _ _ h => mk_word h (D := [14, 15, 20]) (W := 10631) (fun ds => (tkWord_c ds).2.2.2.2.2.2.2.2.2.2.2) (by decide +kernel) (by decide +kernel) (by decide +kernel) (by decide) (by decide) rfl
theorem pqSem.neg {N m : Nat} {T : Nat → Int32} (hE : pqE N T) {env : Nat → Int32} {s s' : pqS} {a : Int32} (hw : pqWf N s) (h : pqSem N m env (pqAdv s) s' a) : pqSem N m env s (pqAdd (-7) s') (-a) := by
  have h2 := h.un hE hw (Or.inl rfl)
  rwa [if_pos rfl] at h2
theorem pqSem.nt {N m : Nat} {T : Nat → Int32} (hE : pqE N T) {env : Nat → Int32} {s s' : pqS} {a : Int32} (hw : pqWf N s) (h : pqSem N m env (pqAdv s) s' a) : pqSem N m env s (pqAdd (-8) s') (if a = 0 then 1 else 0) := by
  have h2 := h.un hE hw (Or.inr rfl)
  rwa [if_neg (by decide)] at h2
theorem mrJ.close {A : zSA} {t n : Nat} {env : Nat → Int32} {od : Int32} {s : pqS} {J : zSI} {K : Int64} (h : mrJ A t n env (od + 1) s J K) : mrJ A t n env od s (zup J 6 (J 6 - 1)) K := by
  obtain ⟨a1, a2, a3, a4, a5, a6, a7, a8, a9⟩ := h
  refine ⟨a1, a2, ?_, a4, a5, a6, a7, a8, fun i hi => (zup_n (by omega)).trans (a9 i hi)⟩
  show J 6 - 1 = od
  rw [a3, zp1]
theorem mrJ.opn {A : zSA} {t n : Nat} {env : Nat → Int32} {od : Int32} {s : pqS} {J : zSI} {K : Int64} (h : mrJ A t n env od s J K) : mrJ A t n env (od + 1) s (zup J 6 (J 6 + 1)) K := by
  obtain ⟨a1, a2, a3, a4, a5, a6, a7, a8, a9⟩ := h
  refine ⟨a1, a2, ?_, a4, a5, a6, a7, a8, fun i hi => (zup_n (by omega)).trans (a9 i hi)⟩
  show J 6 + 1 = od + 1
  rw [a3]
theorem mrJ.bt {A : zSA} {t n : Nat} {env : Nat → Int32} {od : Int32} {s : pqS} {J : zSI} {K : Int64} (h : mrJ A t n env od s J K) (h2 : ¬ J 7 = 0) : s.2.1 = true := by
  cases z : s.2.1 with
  | true => rfl
  | false => exact absurd (h.tk.mpr z) h2
theorem pqTk_t {T : Nat → Int32} {s : pqS} (h : s.2.1 = true) : pqTk T s = -21 := if_pos h
theorem pqTk_f {T : Nat → Int32} {s : pqS} (h : s.2.1 = false) : pqTk T s = T s.1 := if_neg (by rw [h]; decide)
set_option maxRecDepth 20000 in
set_option maxHeartbeats 4000000 in
theorem cm_opens5 {fr t n : Nat} {M0 M : zM} {I : zSI} {A : zSA} {env : Nat → Int32} {od : Int32} {s : pqS} (hf : 4 ≤ fr) (hS : mrS M0 I A t n env od s M) (ho : od = 5) : zCi zX11_opens fr 0 0 [zr (40, 0)] M (fun x M' => x = 0 ∧ mrS M0 I A t n env od (pqBad s) M') := by
  obtain ⟨J, K, rfl, hJ⟩ := id hS
  refine z_enter (L := [some (zr (40, 0))]) rfl (by decide +kernel) (Nat.le_of_ble_eq_true rfl) ?_
  refine z_al iX11_opens_0 rfl ?_
  refine z_gf iX11_opens_1 zupd_s rfl ?_
  refine z_co iX11_opens_4 ?_
  refine z_icmp_ne iX11_opens_5 (fun h1 => ?_) (fun h1 => ?_)
  · exact absurd (hJ.2.2.1.trans ho) h1
  · refine z_al iX11_opens_8 rfl ?_
    refine z_cv0v (fr' := fr - 1) iX11_opens_9 zmX11_fail zupd_s (cm_fail hS) (by omega) (Nat.le_of_ble_eq_true rfl) (fun M1 hq => ?_)
    refine z_co iX11_opens_12 ?_
    refine z_zret iX11_opens_13 rfl rfl ?_
    exact ⟨_, rfl, rfl, hq⟩
set_option maxRecDepth 20000 in
set_option maxHeartbeats 4000000 in
theorem cm_opensS {fr t n : Nat} {M0 M : zM} {I : zSI} {A : zSA} {env : Nat → Int32} {od : Int32} {s : pqS} (hf : 4 ≤ fr) (h19 : M0 (41, 19) = some (.inl (0, 960, .inl (A 19)))) (ht : t < 6) (hn16 : n ≤ 160) (hu : ∀ j, j < n → 0 ≤ (zRow A t j).toInt ∧ (zRow A t j).toInt ≤ 255) (hS : mrS M0 I A t n env od s M) (w1 : pqTk (tkT (zRow A t) n) s ≠ -21) (w2 : pqTk (tkT (zRow A t) n) s ≠ -20) (ho : ¬ od = 5) : zCi zX11_opens fr 0 0 [zr (40, 0)] M (fun x M' => x = 1 ∧ mrS M0 I A t n env (od + 1) (pqAdv s) M') := by
  obtain ⟨J, K, rfl, hJ⟩ := id hS
  refine z_enter (L := [some (zr (40, 0))]) rfl (by decide +kernel) (Nat.le_of_ble_eq_true rfl) ?_
  refine z_al iX11_opens_0 rfl ?_
  refine z_gf iX11_opens_1 zupd_s rfl ?_
  refine z_co iX11_opens_4 ?_
  refine z_icmp_ne iX11_opens_5 (fun h1 => ?_) (fun h1 => ?_)
  · refine z_al iX11_opens_14 rfl ?_
    refine z_dup iX11_opens_15 ?_
    refine z_gf iX11_opens_16 zupd_s rfl ?_
    refine z_co iX11_opens_19 ?_
    refine z_iadd iX11_opens_20 ?_
    refine z_pf2 iX11_opens_21 (by decide) (Nat.le_of_ble_eq_true rfl) trivial ?_
    refine z_mm (J' := zup J 6 (J 6 + 1)) rfl ?_
    refine z_al iX11_opens_24 rfl ?_
    refine z_cv0v (fr' := fr - 1) iX11_opens_25 zmX11_next zupd_s (cm_next (od := od + 1) (s := s) (by omega) h19 ht hn16 hu ⟨zup J 6 (J 6 + 1), K, rfl, hJ.opn⟩ w1 w2) (by omega) (Nat.le_of_ble_eq_true rfl) (fun M1 hq => ?_)
    refine z_co iX11_opens_28 ?_
    refine z_zret iX11_opens_29 rfl rfl ?_
    exact ⟨_, rfl, rfl, hq⟩
  · exact absurd (hJ.2.2.1.symm.trans h1) ho
set_option maxRecDepth 20000 in
set_option maxHeartbeats 4000000 in
theorem cm_name {fr t n : Nat} {M0 M : zM} {I : zSI} {A : zSA} {env : Nat → Int32} {od : Int32} {s : pqS} (hf : 2 ≤ fr) (hS : mrS M0 I A t n env od s M) : zCi zX11_name fr 0 0 [zr (40, 0)] M (fun x M' => ∃ s2, mrS M0 I A t n env od s2 M' ∧ (((-6 ≤ pqTk (tkT (zRow A t) n) s ∧ ¬ 0 ≤ pqTk (tkT (zRow A t) n) s) ∧ s2 = s ∧ x = env (zN (-1 - pqTk (tkT (zRow A t) n) s))) ∨ (¬ (-6 ≤ pqTk (tkT (zRow A t) n) s ∧ ¬ 0 ≤ pqTk (tkT (zRow A t) n) s) ∧ s2 = pqBad s))) := by
  obtain ⟨J, K, rfl, hJ⟩ := id hS
  refine z_enter (L := [some (zr (40, 0))]) rfl (by decide +kernel) (Nat.le_of_ble_eq_true rfl) ?_
  refine z_al iX11_name_0 rfl ?_
  refine z_cl iX11_name_1 ?_
  refine z_cv1i (fr' := fr - 1) iX11_name_4 zmX11_isWord zupd_s (cm_isWord hS mw_cuts (by decide)) (by omega) (Nat.le_of_ble_eq_true rfl) (fun x M1 hq => ?_)
  obtain ⟨rfl, rfl⟩ := hq
  refine z_ib_eq iX11_name_7 (fun h1 => ?_) (fun h1 => ?_)
  · refine z_al iX11_name_15 rfl ?_
    refine z_cl iX11_name_16 ?_
    refine z_cv1i (fr' := fr - 1) iX11_name_19 zmX11_isWord zupd_s (cm_isWord hS mw_speed (by decide)) (by omega) (Nat.le_of_ble_eq_true rfl) (fun x M1 hq => ?_)
    obtain ⟨rfl, rfl⟩ := hq
    refine z_ib_eq iX11_name_22 (fun h2 => ?_) (fun h2 => ?_)
    · refine z_al iX11_name_30 rfl ?_
      refine z_cl iX11_name_31 ?_
      refine z_cv1i (fr' := fr - 1) iX11_name_34 zmX11_isWord zupd_s (cm_isWord hS mw_stuff (by decide)) (by omega) (Nat.le_of_ble_eq_true rfl) (fun x M1 hq => ?_)
      obtain ⟨rfl, rfl⟩ := hq
      refine z_ib_eq iX11_name_37 (fun h3 => ?_) (fun h3 => ?_)
      · refine z_al iX11_name_45 rfl ?_
        refine z_cl iX11_name_46 ?_
        refine z_cv1i (fr' := fr - 1) iX11_name_49 zmX11_isWord zupd_s (cm_isWord hS mw_life (by decide)) (by omega) (Nat.le_of_ble_eq_true rfl) (fun x M1 hq => ?_)
        obtain ⟨rfl, rfl⟩ := hq
        refine z_ib_eq iX11_name_52 (fun h4 => ?_) (fun h4 => ?_)
        · refine z_al iX11_name_60 rfl ?_
          refine z_cl iX11_name_61 ?_
          refine z_cv1i (fr' := fr - 1) iX11_name_64 zmX11_isWord zupd_s (cm_isWord hS mw_reading (by decide)) (by omega) (Nat.le_of_ble_eq_true rfl) (fun x M1 hq => ?_)
          obtain ⟨rfl, rfl⟩ := hq
          refine z_ib_eq iX11_name_67 (fun h5 => ?_) (fun h5 => ?_)
          · refine z_al iX11_name_75 rfl ?_
            refine z_cl iX11_name_76 ?_
            refine z_cv1i (fr' := fr - 1) iX11_name_79 zmX11_isWord zupd_s (cm_isWord hS mw_nominal (by decide)) (by omega) (Nat.le_of_ble_eq_true rfl) (fun x M1 hq => ?_)
            obtain ⟨rfl, rfl⟩ := hq
            refine z_ib_eq iX11_name_82 (fun h6 => ?_) (fun h6 => ?_)
            · refine z_al iX11_name_90 rfl ?_
              refine z_cv0v (fr' := fr - 1) iX11_name_91 zmX11_fail zupd_s (cm_fail hS) (by omega) (Nat.le_of_ble_eq_true rfl) (fun M1 hq => ?_)
              have hS := hq
              refine z_co iX11_name_94 ?_
              refine z_iret iX11_name_95 rfl ?_
              refine ⟨_, rfl, pqBad s, hS, Or.inr ⟨fun q => ?_, rfl⟩⟩
              obtain ⟨q1, q2⟩ := q
              simp only [zi_le, zi_eq, Int32.reduceToInt] at *
              omega
            · refine z_al iX11_name_85 rfl ?_
              refine z_gf iX11_name_86 zupd_s rfl ?_
              refine z_iret iX11_name_89 rfl ?_
              refine ⟨_, rfl, s, ⟨J, K, rfl, hJ⟩, Or.inl ⟨by rw [h6]; decide, rfl, ?_⟩⟩
              rw [h6]
              exact hJ.2.2.2.2.2.2.2.2 5 (by decide)
          · refine z_al iX11_name_70 rfl ?_
            refine z_gf iX11_name_71 zupd_s rfl ?_
            refine z_iret iX11_name_74 rfl ?_
            refine ⟨_, rfl, s, ⟨J, K, rfl, hJ⟩, Or.inl ⟨by rw [h5]; decide, rfl, ?_⟩⟩
            rw [h5]
            exact hJ.2.2.2.2.2.2.2.2 4 (by decide)
        · refine z_al iX11_name_55 rfl ?_
          refine z_gf iX11_name_56 zupd_s rfl ?_
          refine z_iret iX11_name_59 rfl ?_
          refine ⟨_, rfl, s, ⟨J, K, rfl, hJ⟩, Or.inl ⟨by rw [h4]; decide, rfl, ?_⟩⟩
          rw [h4]
          exact hJ.2.2.2.2.2.2.2.2 3 (by decide)
      · refine z_al iX11_name_40 rfl ?_
        refine z_gf iX11_name_41 zupd_s rfl ?_
        refine z_iret iX11_name_44 rfl ?_
        refine ⟨_, rfl, s, ⟨J, K, rfl, hJ⟩, Or.inl ⟨by rw [h3]; decide, rfl, ?_⟩⟩
        rw [h3]
        exact hJ.2.2.2.2.2.2.2.2 2 (by decide)
    · refine z_al iX11_name_25 rfl ?_
      refine z_gf iX11_name_26 zupd_s rfl ?_
      refine z_iret iX11_name_29 rfl ?_
      refine ⟨_, rfl, s, ⟨J, K, rfl, hJ⟩, Or.inl ⟨by rw [h2]; decide, rfl, ?_⟩⟩
      rw [h2]
      exact hJ.2.2.2.2.2.2.2.2 1 (by decide)
  · refine z_al iX11_name_10 rfl ?_
    refine z_gf iX11_name_11 zupd_s rfl ?_
    refine z_iret iX11_name_14 rfl ?_
    refine ⟨_, rfl, s, ⟨J, K, rfl, hJ⟩, Or.inl ⟨by rw [h1]; decide, rfl, ?_⟩⟩
    rw [h1]
    exact hJ.2.2.2.2.2.2.2.2 0 (by decide)
/-- a method of the model's reading does X, and answers what it comes to -/
abbrev mC (Y : zY) (M0 : zM) (I : zSI) (A : zSA) (t n : Nat) (env : Nat → Int32) (F : Nat) (od : Int32) (m : Nat) (X : pqS → pqS) : Prop := ∀ (fr : Nat) (M : zM) (s : pqS), F ≤ fr → mrS M0 I A t n env od s M → pqWf (tkC (zRow A t) n) s → zCi Y fr 0 0 [zr (40, 0)] M (fun x M' => mrS M0 I A t n env od (X s) M' ∧ pqSem (tkC (zRow A t) n) m env s (X s) x)
theorem mC.up {Y : zY} {M0 : zM} {I : zSI} {A : zSA} {t n : Nat} {env : Nat → Int32} {F F' m m' : Nat} {od : Int32} {X : pqS → pqS} (h : mC Y M0 I A t n env F od m X) (hF : F ≤ F') (hm : m ≤ m') : mC Y M0 I A t n env F' od m' X := fun fr M s h1 h2 h3 => (h fr M s (Nat.le_trans hF h1) h2 h3).mono (fun x M' q => ⟨q.1, q.2.up hm⟩)
set_option maxRecDepth 20000 in
set_option maxHeartbeats 4000000 in
theorem cm_one0 {t n : Nat} {M0 : zM} {I : zSI} {A : zSA} {env : Nat → Int32} {od : Int32} (hE : pqE (tkC (zRow A t) n) (tkT (zRow A t) n)) (h19 : M0 (41, 19) = some (.inl (0, 960, .inl (A 19)))) (ht : t < 6) (hn16 : n ≤ 160) (hu : ∀ j, j < n → 0 ≤ (zRow A t j).toInt ∧ (zRow A t j).toInt ≤ 255) (ho : od = 5) : mC zX11_one M0 I A t n env 5 od 1 (pqOne0 (tkT (zRow A t) n)) := by
  intro fr M s hf hS hw
  obtain ⟨J, K, rfl, hJ⟩ := id hS
  refine z_enter (L := [some (zr (40, 0))]) rfl (by decide +kernel) (Nat.le_of_ble_eq_true rfl) ?_
  refine z_co iX11_one_0 ?_
  refine z_is iX11_one_1 ?_
  refine z_al iX11_one_2 rfl ?_
  refine z_co iX11_one_3 ?_
  refine z_cv1i (fr' := fr - 1) iX11_one_5 zmX11_isSign zupd_s (cm_isSign (ch := 45) (c := -45) hS rfl (by decide)) (by omega) (Nat.le_of_ble_eq_true rfl) (fun x M1 hq => ?_)
  obtain ⟨rfl, rfl⟩ := hq
  refine z_ib_eq iX11_one_8 (fun h1 => ?_) (fun h1 => ?_)
  · have k1 := h1
    refine z_al iX11_one_37 rfl ?_
    refine z_co iX11_one_38 ?_
    refine z_cv1i (fr' := fr - 1) iX11_one_40 zmX11_isSign zupd_s (cm_isSign (ch := 40) (c := -40) hS rfl (by decide)) (by omega) (Nat.le_of_ble_eq_true rfl) (fun x M1 hq => ?_)
    obtain ⟨rfl, rfl⟩ := hq
    refine z_ib_eq iX11_one_43 (fun h2 => ?_) (fun h2 => ?_)
    · have k2 := h2
      refine z_al iX11_one_95 rfl ?_
      refine z_gf iX11_one_96 zupd_s rfl ?_
      refine z_if_ne iX11_one_99 (fun h3 => ?_) (fun h3 => ?_)
      · have kb := h3
        refine z_al iX11_one_123 rfl ?_
        refine z_gf iX11_one_124 zupd_s rfl ?_
        refine z_if_ne iX11_one_127 (fun h4 => ?_) (fun h4 => ?_)
        · have g6 : ¬ -6 ≤ pqTk (tkT (zRow A t) n) s := by rw [pqTk_t (hJ.bt h4)]; decide
          refine z_al iX11_one_157 rfl ?_
          refine z_cv0v (fr' := fr - 1) iX11_one_158 zmX11_fail zupd_s (cm_fail hS) (by omega) (Nat.le_of_ble_eq_true rfl) (fun M1 hq => ?_)
          have hS := hq
          obtain ⟨J, K, rfl, hJ⟩ := id hS
          refine z_il iX11_one_161 rfl ?_
          refine z_iret iX11_one_162 rfl ?_
          have e : (pqOne0 (tkT (zRow A t) n)) s = pqBad s := by unfold pqOne0; rw [if_neg g6]
          rw [e]
          exact ⟨_, rfl, hS, pqSem.nil hw⟩
        · exact absurd h4 kb
      · have g7 := hJ.tk.mp h3
        refine z_al iX11_one_102 rfl ?_
        refine z_gf iX11_one_103 zupd_s rfl ?_
        refine z_co iX11_one_106 ?_
        refine z_icmp_ne iX11_one_107 (fun h5 => ?_) (fun h5 => ?_)
        · have k3 := h5
          refine z_al iX11_one_123 rfl ?_
          refine z_gf iX11_one_124 zupd_s rfl ?_
          refine z_if_ne iX11_one_127 (fun h6 => ?_) (fun h6 => ?_)
          · exact absurd (hJ.tk.mpr g7) h6
          · refine z_al iX11_one_130 rfl ?_
            refine z_gf iX11_one_131 zupd_s rfl ?_
            refine z_co iX11_one_134 ?_
            refine z_icmp_ne iX11_one_135 (fun h7 => ?_) (fun h7 => ?_)
            · have g6 : ¬ -6 ≤ pqTk (tkT (zRow A t) n) s := fun q => by
                rw [pqTk_f g7] at q
                have z := mk_num hJ.2.2.2.2.2.1
                exact h7 (z.2.2.1 ⟨q, fun w => k3 (z.1.mpr w)⟩)
              refine z_al iX11_one_157 rfl ?_
              refine z_cv0v (fr' := fr - 1) iX11_one_158 zmX11_fail zupd_s (cm_fail hS) (by omega) (Nat.le_of_ble_eq_true rfl) (fun M1 hq => ?_)
              have hS := hq
              obtain ⟨J, K, rfl, hJ⟩ := id hS
              refine z_il iX11_one_161 rfl ?_
              refine z_iret iX11_one_162 rfl ?_
              have e : (pqOne0 (tkT (zRow A t) n)) s = pqBad s := by unfold pqOne0; rw [if_neg g6]
              rw [e]
              exact ⟨_, rfl, hS, pqSem.nil hw⟩
            · refine z_al iX11_one_138 rfl ?_
              refine z_cv0i (fr' := fr - 1) iX11_one_139 zmX11_name zupd_s (cm_name (by omega) hS) (by omega) (Nat.le_of_ble_eq_true rfl) (fun x M1 hq => ?_)
              have hJ0 := hJ
              obtain ⟨s2, hS, hcase⟩ := hq
              obtain ⟨J, K, rfl, hJ⟩ := id hS
              refine z_is iX11_one_142 ?_
              refine z_al iX11_one_143 rfl ?_
              refine z_gf iX11_one_144 zupd_s rfl ?_
              refine z_if_ne iX11_one_147 (fun h8 => ?_) (fun h8 => ?_)
              · have hb2 := hJ.bt h8
                have g6 : ¬ -6 ≤ pqTk (tkT (zRow A t) n) s := by
                  rcases hcase with ⟨z1, rfl, z3⟩ | ⟨z1, z2⟩
                  · rw [g7] at hb2; exact absurd hb2 (by decide)
                  · intro q
                    refine z1 ⟨q, fun w => k3 ((mk_num hJ0.2.2.2.2.2.1).1.mpr (by rw [← pqTk_f (T := tkT (zRow A t) n) g7]; exact w))⟩
                have hs2 : s2 = pqBad s := by
                  rcases hcase with ⟨z1, rfl, z3⟩ | ⟨z1, z2⟩
                  · rw [g7] at hb2; exact absurd hb2 (by decide)
                  · exact z2
                rw [hs2] at hS
                refine z_il iX11_one_161 rfl ?_
                refine z_iret iX11_one_162 rfl ?_
                have e : (pqOne0 (tkT (zRow A t) n)) s = pqBad s := by unfold pqOne0; rw [if_neg g6]
                rw [e]
                exact ⟨_, rfl, hS, pqSem.nil hw⟩
              · have hb2 := hJ.tk.mp h8
                have hq6 : (-6 ≤ pqTk (tkT (zRow A t) n) s ∧ ¬ 0 ≤ pqTk (tkT (zRow A t) n) s) ∧ s2 = s ∧ x = env (zN (-1 - pqTk (tkT (zRow A t) n) s)) := by
                  rcases hcase with z | ⟨z1, z2⟩
                  · exact z
                  · rw [z2] at hb2; exact absurd (show true = false from hb2) (by decide)
                obtain ⟨hq6, hs2, hxe⟩ := hq6
                rw [hs2] at hS
                rw [hxe]
                refine z_al iX11_one_150 rfl ?_
                refine z_cv0v (fr' := fr - 1) iX11_one_151 zmX11_next zupd_s (cm_next (by omega) h19 ht hn16 hu hS (fun q => by rw [q] at hq6; exact absurd hq6.1 (by decide)) (fun q => by rw [q] at hq6; exact absurd hq6.1 (by decide))) (by omega) (Nat.le_of_ble_eq_true rfl) (fun M1 hq => ?_)
                have hS := hq
                obtain ⟨J, K, rfl, hJ⟩ := id hS
                refine z_goto iX11_one_154 ?_
                refine z_il iX11_one_161 rfl ?_
                refine z_iret iX11_one_162 rfl ?_
                have e : (pqOne0 (tkT (zRow A t) n)) s = pqAdv (pqAdd (pqTk (tkT (zRow A t) n) s) s) := by unfold pqOne0; rw [if_pos hq6.1]
                rw [e]
                have hat := (pqSem.atom (env := env) hE hq6.1 hw).up (show 1 ≤ 1 by omega)
                rw [show pqAt env (pqTk (tkT (zRow A t) n) s) = env (zN (-1 - pqTk (tkT (zRow A t) n) s)) from if_neg hq6.2] at hat
                exact ⟨_, rfl, hS.of rfl rfl, hat⟩
        · have g0 : 0 ≤ pqTk (tkT (zRow A t) n) s := by rw [pqTk_f g7]; exact (mk_num hJ.2.2.2.2.2.1).1.mp h5
          have hk2 := (mk_num hJ.2.2.2.2.2.1).2.1 h5
          have g6 : -6 ≤ pqTk (tkT (zRow A t) n) s := by simp only [zi_le, Int32.reduceToInt] at g0 ⊢; omega
          refine z_al iX11_one_110 rfl ?_
          refine z_gf iX11_one_111 zupd_s rfl ?_
          refine z_l2i iX11_one_114 ?_
          refine z_is iX11_one_115 ?_
          refine z_al iX11_one_116 rfl ?_
          refine z_cv0v (fr' := fr - 1) iX11_one_117 zmX11_next zupd_s (cm_next (by omega) h19 ht hn16 hu hS (fun q => by rw [q] at g0; exact absurd g0 (by decide)) (fun q => by rw [q] at g0; exact absurd g0 (by decide))) (by omega) (Nat.le_of_ble_eq_true rfl) (fun M1 hq => ?_)
          have hS := hq
          obtain ⟨J, K, rfl, hJ⟩ := id hS
          refine z_goto iX11_one_120 ?_
          refine z_il iX11_one_161 rfl ?_
          refine z_iret iX11_one_162 rfl ?_
          have e : (pqOne0 (tkT (zRow A t) n)) s = pqAdv (pqAdd (pqTk (tkT (zRow A t) n) s) s) := by unfold pqOne0; rw [if_pos g6]
          rw [e]
          have hat := (pqSem.atom (env := env) hE g6 hw).up (show 1 ≤ 1 by omega)
          rw [show pqAt env (pqTk (tkT (zRow A t) n) s) = pqTk (tkT (zRow A t) n) s from if_pos g0] at hat
          refine ⟨_, rfl, hS.of rfl rfl, ?_⟩
          rw [hk2, ← pqTk_f (T := tkT (zRow A t) n) g7]
          exact hat
    · refine z_al iX11_one_46 rfl ?_
      refine z_cv0i (fr' := fr - 1) iX11_one_47 zmX11_opens zupd_s (cm_opens5 (by omega) hS ho) (by omega) (Nat.le_of_ble_eq_true rfl) (fun x M1 hq => ?_)
      obtain ⟨rfl, hS⟩ := hq
      obtain ⟨J, K, rfl, hJ⟩ := id hS
      refine z_if_eq iX11_one_50 (fun h9 => ?_) (fun h9 => ?_)
      · refine z_il iX11_one_161 rfl ?_
        refine z_iret iX11_one_162 rfl ?_
        have e : (pqOne0 (tkT (zRow A t) n)) s = pqBad s := by unfold pqOne0; rw [if_neg (by rw [h2]; decide)]
        rw [e]
        exact ⟨_, rfl, hS, pqSem.nil hw⟩
      · exact absurd rfl h9
  · refine z_al iX11_one_11 rfl ?_
    refine z_cv0i (fr' := fr - 1) iX11_one_12 zmX11_opens zupd_s (cm_opens5 (by omega) hS ho) (by omega) (Nat.le_of_ble_eq_true rfl) (fun x M1 hq => ?_)
    obtain ⟨rfl, hS⟩ := hq
    obtain ⟨J, K, rfl, hJ⟩ := id hS
    refine z_if_eq iX11_one_15 (fun h10 => ?_) (fun h10 => ?_)
    · refine z_il iX11_one_161 rfl ?_
      refine z_iret iX11_one_162 rfl ?_
      have e : (pqOne0 (tkT (zRow A t) n)) s = pqBad s := by unfold pqOne0; rw [if_neg (by rw [h1]; decide)]
      rw [e]
      exact ⟨_, rfl, hS, pqSem.nil hw⟩
    · exact absurd rfl h10
set_option maxRecDepth 20000 in
set_option maxHeartbeats 4000000 in
theorem cm_oneS {t n : Nat} {M0 : zM} {I : zSI} {A : zSA} {env : Nat → Int32} {od : Int32} {F : Nat} (hE : pqE (tkC (zRow A t) n) (tkT (zRow A t) n)) (h19 : M0 (41, 19) = some (.inl (0, 960, .inl (A 19)))) (ht : t < 6) (hn16 : n ≤ 160) (hu : ∀ j, j < n → 0 ≤ (zRow A t j).toInt ∧ (zRow A t j).toInt ≤ 255) {m : Nat} {one eith : pqS → pqS} (Ho : mC zX11_one M0 I A t n env F (od + 1) m one) (He : mC zX11_either M0 I A t n env F (od + 1) (m + 5) eith) (ho : ¬ od = 5) (hF : 4 ≤ F) : mC zX11_one M0 I A t n env (F + 1) od (m + 5) (pqOneS (tkT (zRow A t) n) one eith) := by
  intro fr M s hf hS hw
  obtain ⟨J, K, rfl, hJ⟩ := id hS
  refine z_enter (L := [some (zr (40, 0))]) rfl (by decide +kernel) (Nat.le_of_ble_eq_true rfl) ?_
  refine z_co iX11_one_0 ?_
  refine z_is iX11_one_1 ?_
  refine z_al iX11_one_2 rfl ?_
  refine z_co iX11_one_3 ?_
  refine z_cv1i (fr' := fr - 1) iX11_one_5 zmX11_isSign zupd_s (cm_isSign (ch := 45) (c := -45) hS rfl (by decide)) (by omega) (Nat.le_of_ble_eq_true rfl) (fun x M1 hq => ?_)
  obtain ⟨rfl, rfl⟩ := hq
  refine z_ib_eq iX11_one_8 (fun h1 => ?_) (fun h1 => ?_)
  · have k1 := h1
    refine z_al iX11_one_37 rfl ?_
    refine z_co iX11_one_38 ?_
    refine z_cv1i (fr' := fr - 1) iX11_one_40 zmX11_isSign zupd_s (cm_isSign (ch := 40) (c := -40) hS rfl (by decide)) (by omega) (Nat.le_of_ble_eq_true rfl) (fun x M1 hq => ?_)
    obtain ⟨rfl, rfl⟩ := hq
    refine z_ib_eq iX11_one_43 (fun h2 => ?_) (fun h2 => ?_)
    · have k2 := h2
      refine z_al iX11_one_95 rfl ?_
      refine z_gf iX11_one_96 zupd_s rfl ?_
      refine z_if_ne iX11_one_99 (fun h3 => ?_) (fun h3 => ?_)
      · have kb := h3
        refine z_al iX11_one_123 rfl ?_
        refine z_gf iX11_one_124 zupd_s rfl ?_
        refine z_if_ne iX11_one_127 (fun h4 => ?_) (fun h4 => ?_)
        · have g6 : ¬ -6 ≤ pqTk (tkT (zRow A t) n) s := by rw [pqTk_t (hJ.bt h4)]; decide
          refine z_al iX11_one_157 rfl ?_
          refine z_cv0v (fr' := fr - 1) iX11_one_158 zmX11_fail zupd_s (cm_fail hS) (by omega) (Nat.le_of_ble_eq_true rfl) (fun M1 hq => ?_)
          have hS := hq
          obtain ⟨J, K, rfl, hJ⟩ := id hS
          refine z_il iX11_one_161 rfl ?_
          refine z_iret iX11_one_162 rfl ?_
          have e : (pqOneS (tkT (zRow A t) n) one eith) s = pqBad s := by unfold pqOneS; rw [if_neg g6, if_neg k1, if_neg k2]
          rw [e]
          exact ⟨_, rfl, hS, pqSem.nil hw⟩
        · exact absurd h4 kb
      · have g7 := hJ.tk.mp h3
        refine z_al iX11_one_102 rfl ?_
        refine z_gf iX11_one_103 zupd_s rfl ?_
        refine z_co iX11_one_106 ?_
        refine z_icmp_ne iX11_one_107 (fun h5 => ?_) (fun h5 => ?_)
        · have k3 := h5
          refine z_al iX11_one_123 rfl ?_
          refine z_gf iX11_one_124 zupd_s rfl ?_
          refine z_if_ne iX11_one_127 (fun h6 => ?_) (fun h6 => ?_)
          · exact absurd (hJ.tk.mpr g7) h6
          · refine z_al iX11_one_130 rfl ?_
            refine z_gf iX11_one_131 zupd_s rfl ?_
            refine z_co iX11_one_134 ?_
            refine z_icmp_ne iX11_one_135 (fun h7 => ?_) (fun h7 => ?_)
            · have g6 : ¬ -6 ≤ pqTk (tkT (zRow A t) n) s := fun q => by
                rw [pqTk_f g7] at q
                have z := mk_num hJ.2.2.2.2.2.1
                exact h7 (z.2.2.1 ⟨q, fun w => k3 (z.1.mpr w)⟩)
              refine z_al iX11_one_157 rfl ?_
              refine z_cv0v (fr' := fr - 1) iX11_one_158 zmX11_fail zupd_s (cm_fail hS) (by omega) (Nat.le_of_ble_eq_true rfl) (fun M1 hq => ?_)
              have hS := hq
              obtain ⟨J, K, rfl, hJ⟩ := id hS
              refine z_il iX11_one_161 rfl ?_
              refine z_iret iX11_one_162 rfl ?_
              have e : (pqOneS (tkT (zRow A t) n) one eith) s = pqBad s := by unfold pqOneS; rw [if_neg g6, if_neg k1, if_neg k2]
              rw [e]
              exact ⟨_, rfl, hS, pqSem.nil hw⟩
            · refine z_al iX11_one_138 rfl ?_
              refine z_cv0i (fr' := fr - 1) iX11_one_139 zmX11_name zupd_s (cm_name (by omega) hS) (by omega) (Nat.le_of_ble_eq_true rfl) (fun x M1 hq => ?_)
              have hJ0 := hJ
              obtain ⟨s2, hS, hcase⟩ := hq
              obtain ⟨J, K, rfl, hJ⟩ := id hS
              refine z_is iX11_one_142 ?_
              refine z_al iX11_one_143 rfl ?_
              refine z_gf iX11_one_144 zupd_s rfl ?_
              refine z_if_ne iX11_one_147 (fun h8 => ?_) (fun h8 => ?_)
              · have hb2 := hJ.bt h8
                have g6 : ¬ -6 ≤ pqTk (tkT (zRow A t) n) s := by
                  rcases hcase with ⟨z1, rfl, z3⟩ | ⟨z1, z2⟩
                  · rw [g7] at hb2; exact absurd hb2 (by decide)
                  · intro q
                    refine z1 ⟨q, fun w => k3 ((mk_num hJ0.2.2.2.2.2.1).1.mpr (by rw [← pqTk_f (T := tkT (zRow A t) n) g7]; exact w))⟩
                have hs2 : s2 = pqBad s := by
                  rcases hcase with ⟨z1, rfl, z3⟩ | ⟨z1, z2⟩
                  · rw [g7] at hb2; exact absurd hb2 (by decide)
                  · exact z2
                rw [hs2] at hS
                refine z_il iX11_one_161 rfl ?_
                refine z_iret iX11_one_162 rfl ?_
                have e : (pqOneS (tkT (zRow A t) n) one eith) s = pqBad s := by unfold pqOneS; rw [if_neg g6, if_neg k1, if_neg k2]
                rw [e]
                exact ⟨_, rfl, hS, pqSem.nil hw⟩
              · have hb2 := hJ.tk.mp h8
                have hq6 : (-6 ≤ pqTk (tkT (zRow A t) n) s ∧ ¬ 0 ≤ pqTk (tkT (zRow A t) n) s) ∧ s2 = s ∧ x = env (zN (-1 - pqTk (tkT (zRow A t) n) s)) := by
                  rcases hcase with z | ⟨z1, z2⟩
                  · exact z
                  · rw [z2] at hb2; exact absurd (show true = false from hb2) (by decide)
                obtain ⟨hq6, hs2, hxe⟩ := hq6
                rw [hs2] at hS
                rw [hxe]
                refine z_al iX11_one_150 rfl ?_
                refine z_cv0v (fr' := fr - 1) iX11_one_151 zmX11_next zupd_s (cm_next (by omega) h19 ht hn16 hu hS (fun q => by rw [q] at hq6; exact absurd hq6.1 (by decide)) (fun q => by rw [q] at hq6; exact absurd hq6.1 (by decide))) (by omega) (Nat.le_of_ble_eq_true rfl) (fun M1 hq => ?_)
                have hS := hq
                obtain ⟨J, K, rfl, hJ⟩ := id hS
                refine z_goto iX11_one_154 ?_
                refine z_il iX11_one_161 rfl ?_
                refine z_iret iX11_one_162 rfl ?_
                have e : (pqOneS (tkT (zRow A t) n) one eith) s = pqAdv (pqAdd (pqTk (tkT (zRow A t) n) s) s) := by unfold pqOneS; rw [if_pos hq6.1]
                rw [e]
                have hat := (pqSem.atom (env := env) hE hq6.1 hw).up (show 1 ≤ (m + 5) by omega)
                rw [show pqAt env (pqTk (tkT (zRow A t) n) s) = env (zN (-1 - pqTk (tkT (zRow A t) n) s)) from if_neg hq6.2] at hat
                exact ⟨_, rfl, hS.of rfl rfl, hat⟩
        · have g0 : 0 ≤ pqTk (tkT (zRow A t) n) s := by rw [pqTk_f g7]; exact (mk_num hJ.2.2.2.2.2.1).1.mp h5
          have hk2 := (mk_num hJ.2.2.2.2.2.1).2.1 h5
          have g6 : -6 ≤ pqTk (tkT (zRow A t) n) s := by simp only [zi_le, Int32.reduceToInt] at g0 ⊢; omega
          refine z_al iX11_one_110 rfl ?_
          refine z_gf iX11_one_111 zupd_s rfl ?_
          refine z_l2i iX11_one_114 ?_
          refine z_is iX11_one_115 ?_
          refine z_al iX11_one_116 rfl ?_
          refine z_cv0v (fr' := fr - 1) iX11_one_117 zmX11_next zupd_s (cm_next (by omega) h19 ht hn16 hu hS (fun q => by rw [q] at g0; exact absurd g0 (by decide)) (fun q => by rw [q] at g0; exact absurd g0 (by decide))) (by omega) (Nat.le_of_ble_eq_true rfl) (fun M1 hq => ?_)
          have hS := hq
          obtain ⟨J, K, rfl, hJ⟩ := id hS
          refine z_goto iX11_one_120 ?_
          refine z_il iX11_one_161 rfl ?_
          refine z_iret iX11_one_162 rfl ?_
          have e : (pqOneS (tkT (zRow A t) n) one eith) s = pqAdv (pqAdd (pqTk (tkT (zRow A t) n) s) s) := by unfold pqOneS; rw [if_pos g6]
          rw [e]
          have hat := (pqSem.atom (env := env) hE g6 hw).up (show 1 ≤ (m + 5) by omega)
          rw [show pqAt env (pqTk (tkT (zRow A t) n) s) = pqTk (tkT (zRow A t) n) s from if_pos g0] at hat
          refine ⟨_, rfl, hS.of rfl rfl, ?_⟩
          rw [hk2, ← pqTk_f (T := tkT (zRow A t) n) g7]
          exact hat
    · refine z_al iX11_one_46 rfl ?_
      refine z_cv0i (fr' := fr - 1) iX11_one_47 zmX11_opens zupd_s (cm_opensS (by omega) h19 ht hn16 hu hS (by rw [h2]; decide) (by rw [h2]; decide) ho) (by omega) (Nat.le_of_ble_eq_true rfl) (fun x M1 hq => ?_)
      obtain ⟨rfl, hS⟩ := hq
      have hw2 := pqAdv_wf hE h2 (by decide) (by decide) hw
      obtain ⟨J, K, rfl, hJ⟩ := id hS
      refine z_if_eq iX11_one_50 (fun h9 => ?_) (fun h9 => ?_)
      · exact absurd h9 (by decide)
      · refine z_al iX11_one_53 rfl ?_
        refine z_cv0i (fr' := fr - 1) iX11_one_54 zmX11_either zupd_s (He _ _ _ (by omega) hS hw2) (by omega) (Nat.le_of_ble_eq_true rfl) (fun x M1 hq => ?_)
        obtain ⟨hS, hsem⟩ := hq
        obtain ⟨J, K, rfl, hJ⟩ := id hS
        refine z_is iX11_one_57 ?_
        refine z_al iX11_one_58 rfl ?_
        refine z_co iX11_one_59 ?_
        refine z_cv1i (fr' := fr - 1) iX11_one_61 zmX11_isSign zupd_s (cm_isSign (ch := 41) (c := -41) hS rfl (by decide)) (by omega) (Nat.le_of_ble_eq_true rfl) (fun x M1 hq => ?_)
        obtain ⟨rfl, rfl⟩ := hq
        refine z_ib_ne iX11_one_64 (fun h10 => ?_) (fun h10 => ?_)
        · have hc := h10
          refine z_al iX11_one_71 rfl ?_
          refine z_dup iX11_one_72 ?_
          refine z_gf iX11_one_73 zupd_s rfl ?_
          refine z_co iX11_one_76 ?_
          refine z_isub iX11_one_77 ?_
          refine z_pf2 iX11_one_78 (by decide) (Nat.le_of_ble_eq_true rfl) trivial ?_
          have hJ := hJ.close
          have hS := (⟨zup J 6 (J 6 - 1), K, rfl, hJ⟩ : mrS M0 I A t n env od _ _)
          refine z_mm (J' := zup J 6 (J 6 - 1)) rfl ?_
          refine z_al iX11_one_81 rfl ?_
          refine z_gf iX11_one_82 zupd_s rfl ?_
          refine z_if_ne iX11_one_85 (fun h11 => ?_) (fun h11 => ?_)
          · exact absurd (hJ.tk.mpr (pqTk_b hc (by decide)).1) h11
          · refine z_al iX11_one_88 rfl ?_
            refine z_cv0v (fr' := fr - 1) iX11_one_89 zmX11_next zupd_s (cm_next (by omega) h19 ht hn16 hu hS (by rw [hc]; decide) (by rw [hc]; decide)) (by omega) (Nat.le_of_ble_eq_true rfl) (fun M1 hq => ?_)
            have hS := hq
            obtain ⟨J, K, rfl, hJ⟩ := id hS
            refine z_goto iX11_one_92 ?_
            refine z_il iX11_one_161 rfl ?_
            refine z_iret iX11_one_162 rfl ?_
            have e : (pqOneS (tkT (zRow A t) n) one eith) s = pqExp (tkT (zRow A t) n) (-41) (eith (pqAdv s)) := by unfold pqOneS; rw [if_neg (by rw [h2]; decide), if_neg (by rw [h2]; decide), if_pos h2]
            have hsp := hsem.par hE
            rw [← e] at hsp
            rw [show pqExp (tkT (zRow A t) n) (-41) (eith (pqAdv s)) = pqAdv (eith (pqAdv s)) from if_pos hc] at e
            exact ⟨_, rfl, by rw [e]; exact hS, hsp.up (by omega)⟩
        · have hc := h10
          refine z_al iX11_one_67 rfl ?_
          refine z_cv0v (fr' := fr - 1) iX11_one_68 zmX11_fail zupd_s (cm_fail hS) (by omega) (Nat.le_of_ble_eq_true rfl) (fun M1 hq => ?_)
          have hS := hq
          obtain ⟨J, K, rfl, hJ⟩ := id hS
          refine z_al iX11_one_71 rfl ?_
          refine z_dup iX11_one_72 ?_
          refine z_gf iX11_one_73 zupd_s rfl ?_
          refine z_co iX11_one_76 ?_
          refine z_isub iX11_one_77 ?_
          refine z_pf2 iX11_one_78 (by decide) (Nat.le_of_ble_eq_true rfl) trivial ?_
          have hJ := hJ.close
          have hS := (⟨zup J 6 (J 6 - 1), K, rfl, hJ⟩ : mrS M0 I A t n env od _ _)
          refine z_mm (J' := zup J 6 (J 6 - 1)) rfl ?_
          refine z_al iX11_one_81 rfl ?_
          refine z_gf iX11_one_82 zupd_s rfl ?_
          refine z_if_ne iX11_one_85 (fun h12 => ?_) (fun h12 => ?_)
          · refine z_il iX11_one_161 rfl ?_
            refine z_iret iX11_one_162 rfl ?_
            have e : (pqOneS (tkT (zRow A t) n) one eith) s = pqExp (tkT (zRow A t) n) (-41) (eith (pqAdv s)) := by unfold pqOneS; rw [if_neg (by rw [h2]; decide), if_neg (by rw [h2]; decide), if_pos h2]
            have hsp := hsem.par hE
            rw [← e] at hsp
            rw [show pqExp (tkT (zRow A t) n) (-41) (eith (pqAdv s)) = pqBad (eith (pqAdv s)) from if_neg hc] at e
            exact ⟨_, rfl, by rw [e]; exact hS, hsp.up (by omega)⟩
          · exact absurd (show true = false from hJ.tk.mp h12) (by decide)
  · refine z_al iX11_one_11 rfl ?_
    refine z_cv0i (fr' := fr - 1) iX11_one_12 zmX11_opens zupd_s (cm_opensS (by omega) h19 ht hn16 hu hS (by rw [h1]; decide) (by rw [h1]; decide) ho) (by omega) (Nat.le_of_ble_eq_true rfl) (fun x M1 hq => ?_)
    obtain ⟨rfl, hS⟩ := hq
    have hw2 := pqAdv_wf hE h1 (by decide) (by decide) hw
    obtain ⟨J, K, rfl, hJ⟩ := id hS
    refine z_if_eq iX11_one_15 (fun h13 => ?_) (fun h13 => ?_)
    · exact absurd h13 (by decide)
    · refine z_al iX11_one_18 rfl ?_
      refine z_cv0i (fr' := fr - 1) iX11_one_19 zmX11_one zupd_s (Ho _ _ _ (by omega) hS hw2) (by omega) (Nat.le_of_ble_eq_true rfl) (fun x M1 hq => ?_)
      obtain ⟨hS, hsem⟩ := hq
      obtain ⟨J, K, rfl, hJ⟩ := id hS
      refine z_ineg iX11_one_22 ?_
      refine z_is iX11_one_23 ?_
      refine z_al iX11_one_24 rfl ?_
      refine z_dup iX11_one_25 ?_
      refine z_gf iX11_one_26 zupd_s rfl ?_
      refine z_co iX11_one_29 ?_
      refine z_isub iX11_one_30 ?_
      refine z_pf2 iX11_one_31 (by decide) (Nat.le_of_ble_eq_true rfl) trivial ?_
      refine z_goto iX11_one_34 ?_
      refine z_il iX11_one_161 rfl ?_
      refine z_iret iX11_one_162 rfl ?_
      have e : (pqOneS (tkT (zRow A t) n) one eith) s = pqAdd (-7) (one (pqAdv s)) := by unfold pqOneS; rw [if_neg (by rw [h1]; decide), if_pos h1]
      rw [e]
      exact ⟨_, rfl, ⟨zup J 6 (J 6 - 1), K, rfl, hJ.close⟩, (hsem.neg hE hw).up (by omega)⟩
