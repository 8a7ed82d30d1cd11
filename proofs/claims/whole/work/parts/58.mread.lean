theorem mrJ.of {A : zSA} {t n : Nat} {env : Nat → Int32} {od : Int32} {s s' : pqS} {J : zSI} {K : Int64} (h : mrJ A t n env od s J K) (h1 : s'.1 = s.1) (h2 : s'.2.1 = s.2.1) : mrJ A t n env od s' J K := by
  unfold mrJ at h ⊢
  rw [h1, h2]
  exact h
theorem e160 {tt : Int32} {t : Nat} (h : tt.toInt = (t : Int)) (ht : t < 6) : 160 * tt = nI (160 * t) := by
  rw [← Int32.toInt_inj, zmul (by simp only [Int32.reduceToInt]; omega) (by simp only [Int32.reduceToInt]; omega), nI_toInt (by omega), h]
  simp only [Int32.reduceToInt]
  omega
set_option maxRecDepth 20000 in
set_option maxHeartbeats 4000000 in
theorem cm_read {fr : Nat} {M : zM} {I J : zSI} {A : zSA} {L : zSL} {K : Int64} {t n : Nat} {r r1 r2 r3 : pqS} (hE : pqE (tkC (zRow A t) n) (tkT (zRow A t) n)) (ht : t < 6) (hn16 : n ≤ 160) (hu : ∀ j, j < n → 0 ≤ (zRow A t j).toInt ∧ (zRow A t j).toInt ≤ 255) (hr1 : r1 = pqPart (tkT (zRow A t) n) (-22) (0, false, [])) (hr2 : r2 = pqPart (tkT (zRow A t) n) (-23) r1) (hr3 : r3 = pqPart (tkT (zRow A t) n) (-24) r2) (hr : r = pqExp (tkT (zRow A t) n) (-20) r3) (hR : RepM M I A L J K) (hf : 44 ≤ fr) {tt w : Int32} (htt : tt.toInt = (t : Int)) (hsz : A 20 t = nI n) : zCi zX11_read fr 0 0 [zr (40, 0), zi tt, zi w] M (fun x M' => (∃ J' K', M' = zupd M (40, 0) (.inr (11, mObj I J' K')) ∧ J' 7 = (if r.2.1 = true then 1 else 0) ∧ (r.2.1 = true → J' 8 = nI (tkP (zRow A t) n r.1)) ∧ (r.2.1 = false → x = if w = 0 then pvR r1 r2 r3 (fun i => J (9 + i)) 0 else if w = 1 then pvR r1 r2 r3 (fun i => J (9 + i)) 1 else pvR r1 r2 r3 (fun i => J (9 + i)) 2))) := by
  refine z_enter (L := [some (zr (40, 0)), some (zi tt), some (zi w)]) rfl (by decide +kernel) (Nat.le_of_ble_eq_true rfl) ?_
  refine z_al iX11_read_0 rfl ?_
  refine z_co iX11_read_1 ?_
  refine z_il iX11_read_4 rfl ?_
  refine z_imul iX11_read_5 ?_
  rw [e160 htt ht]
  refine z_pf iX11_read_6 hR.1 (by decide) (Nat.le_of_ble_eq_true rfl) trivial ?_
  refine z_al iX11_read_9 rfl ?_
  refine z_al iX11_read_10 rfl ?_
  refine z_gf iX11_read_11 zupd_s rfl ?_
  refine z_il iX11_read_14 rfl ?_
  refine z_iald iX11_read_15 ((zupd_k (Nat.ne_of_beq_eq_false rfl)).trans (hR.2.1 20 (by decide))) htt ht ?_
  rw [hsz]
  refine z_pf2 iX11_read_16 (by decide) (Nat.le_of_ble_eq_true rfl) trivial ?_
  refine z_al iX11_read_19 rfl ?_
  refine z_co iX11_read_20 ?_
  refine z_pf2 iX11_read_21 (by decide) (Nat.le_of_ble_eq_true rfl) trivial ?_
  refine z_al iX11_read_24 rfl ?_
  refine z_co iX11_read_25 ?_
  refine z_pf2 iX11_read_26 (by decide) (Nat.le_of_ble_eq_true rfl) trivial ?_
  refine z_al iX11_read_29 rfl ?_
  refine z_co iX11_read_30 ?_
  refine z_pf2 iX11_read_31 (by decide) (Nat.le_of_ble_eq_true rfl) (Or.inl rfl) ?_
  refine z_mm (J' := (zup (zup (zup (zup (zup J 1 (nI (160 * t))) 2 (nI n)) 5 0) 6 0) 7 0)) rfl ?_
  refine z_al iX11_read_34 rfl ?_
  refine z_cv0v (fr' := fr - 1) iX11_read_35 zmX11_next zupd_s (c11_next (J := (zup (zup (zup (zup (zup J 1 (nI (160 * t))) 2 (nI n)) 5 0) 6 0) 7 0)) (h := 0) (by omega) (hR.2.1 19 (by decide)) ht hn16 hu (Nat.zero_le _) rfl rfl rfl) (by omega) (Nat.le_of_ble_eq_true rfl) (fun M1 hq => ?_)
  obtain ⟨J1, K1, rfl, hat, hNN⟩ := hq
  have hJ : mrJ A t n (fun i => J (9 + i)) 0 (0, false, []) J1 K1 := by
    unfold mkAt at hat
    rw [show tkSkip (zRow A t) n 0 = tkP (zRow A t) n 0 from rfl] at hat
    obtain ⟨h3, h4, h5⟩ := hat
    exact ⟨(hNN 1 (by decide) (by decide) (by decide)), (hNN 2 (by decide) (by decide) (by decide)), (hNN 6 (by decide) (by decide) (by decide)), (hNN 7 (by decide) (by decide) (by decide)), fun q => absurd (show false = true from q) (by decide), h3, h4, h5, fun i hi => (hNN _ (by omega) (by omega) (by omega)).trans ((zup_n (by omega)).trans ((zup_n (by omega)).trans ((zup_n (by omega)).trans ((zup_n (by omega)).trans (zup_n (by omega))))))⟩
  have hS : mrS M I A t n (fun i => J (9 + i)) 0 (0, false, []) (zupd M (40, 0) (.inr (11, mObj I J1 K1))) := ⟨J1, K1, rfl, hJ⟩
  have hw0 : pqWf (tkC (zRow A t) n) (0, false, []) := pqWf_0
  refine z_al iX11_read_38 rfl ?_
  refine z_cl iX11_read_39 ?_
  refine z_cv1i (fr' := fr - 1) iX11_read_42 zmX11_part zupd_s (cm_part hE (hR.2.1 19 (by decide)) ht hn16 hu mw_worn (by decide) (by decide) (by omega) hS hw0) (by omega) (Nat.le_of_ble_eq_true rfl) (fun x M1 hq => ?_)
  obtain ⟨hS, hs1⟩ := hq
  rw [← hr1] at hS hs1
  have hw1 := hs1.wf hw0
  obtain ⟨J1, K1, rfl, hJ⟩ := id hS
  refine z_is iX11_read_45 ?_
  refine z_al iX11_read_46 rfl ?_
  refine z_gf iX11_read_47 zupd_s rfl ?_
  refine z_if_eq iX11_read_50 (fun h1 => ?_) (fun h1 => ?_)
  · have hg0 := hJ.tk.mp h1
    refine z_al iX11_read_57 rfl ?_
    refine z_cl iX11_read_58 ?_
    refine z_cv1i (fr' := fr - 1) iX11_read_61 zmX11_part zupd_s (cm_part hE (hR.2.1 19 (by decide)) ht hn16 hu mw_broken (by decide) (by decide) (by omega) hS hw1) (by omega) (Nat.le_of_ble_eq_true rfl) (fun x M1 hq => ?_)
    obtain ⟨hS, hs2⟩ := hq
    rw [← hr2] at hS hs2
    have hw2 := hs2.wf hw1
    obtain ⟨J1, K1, rfl, hJ⟩ := id hS
    refine z_is iX11_read_64 ?_
    refine z_al iX11_read_66 rfl ?_
    refine z_gf iX11_read_67 zupd_s rfl ?_
    refine z_if_eq iX11_read_70 (fun h2 => ?_) (fun h2 => ?_)
    · have hg1 := hJ.tk.mp h2
      refine z_al iX11_read_77 rfl ?_
      refine z_cl iX11_read_78 ?_
      refine z_cv1i (fr' := fr - 1) iX11_read_81 zmX11_part zupd_s (cm_part hE (hR.2.1 19 (by decide)) ht hn16 hu mw_check (by decide) (by decide) (by omega) hS hw2) (by omega) (Nat.le_of_ble_eq_true rfl) (fun x M1 hq => ?_)
      obtain ⟨hS, hs3⟩ := hq
      rw [← hr3] at hS hs3
      obtain ⟨J1, K1, rfl, hJ⟩ := id hS
      refine z_is iX11_read_84 ?_
      refine z_al iX11_read_86 rfl ?_
      refine z_gf iX11_read_87 zupd_s rfl ?_
      refine z_if_ne iX11_read_90 (fun h3 => ?_) (fun h3 => ?_)
      · have hbad : r3.2.1 = true := hJ.bt h3
        refine z_loc [some (zr (40, 0)), some (zi tt), some (zi w), some (zi _), some (zi _), some (zi _)] ⟨rfl, rfl, rfl, rfl, rfl, rfl, trivial⟩ (t_read ?_)
        have e : r = pqBad r3 := hr.trans (if_neg (by rw [pqTk_t hbad]; decide))
        refine ⟨_, rfl, J1, K1, rfl, ?_, fun _ => ?_, fun q => absurd q (by rw [e]; exact (by decide : ¬ true = false))⟩
        · rw [e, if_pos (show (pqBad r3).2.1 = true from rfl)]
          have := hJ.2.2.2.1
          rwa [if_pos hbad] at this
        · rw [e]
          exact hJ.2.2.2.2.1 hbad
      · have hg := hJ.tk.mp h3
        refine z_al iX11_read_93 rfl ?_
        refine z_gf iX11_read_94 zupd_s rfl ?_
        refine z_if_eq iX11_read_97 (fun h4 => ?_) (fun h4 => ?_)
        · have ht0 : pqTk (tkT (zRow A t) n) r3 = -20 := (pqTk_iff (by decide)).mpr ⟨hg, (mk_num hJ.2.2.2.2.2.1).2.2.2.mp h4⟩
          refine z_loc [some (zr (40, 0)), some (zi tt), some (zi w), some (zi _), some (zi _), some (zi _)] ⟨rfl, rfl, rfl, rfl, rfl, rfl, trivial⟩ (t_read ?_)
          have e : r = pqAdv r3 := hr.trans (if_pos ht0)
          have hv := pvR_of hs1 hs2 hs3 hg
          refine ⟨_, rfl, J1, K1, rfl, ?_, fun q => ?_, fun _ => by rw [hv.1, hv.2.1, hv.2.2]⟩
          · rw [e, if_neg (by rw [show (pqAdv r3).2.1 = false from hg]; decide)]
            exact hJ.tk.mpr hg
          · rw [e] at q
            have q : r3.2.1 = true := q
            rw [hg] at q
            exact absurd q (by decide)
        · have ht0 : ¬ pqTk (tkT (zRow A t) n) r3 = -20 := fun q => h4 ((mk_num hJ.2.2.2.2.2.1).2.2.2.mpr (pqTk_b q (by decide)).2)
          refine z_al iX11_read_100 rfl ?_
          refine z_cv0v (fr' := fr - 1) iX11_read_101 zmX11_fail zupd_s (cm_fail hS) (by omega) (Nat.le_of_ble_eq_true rfl) (fun M1 hq => ?_)
          have hS := hq
          obtain ⟨J1, K1, rfl, hJ⟩ := id hS
          refine z_loc [some (zr (40, 0)), some (zi tt), some (zi w), some (zi _), some (zi _), some (zi _)] ⟨rfl, rfl, rfl, rfl, rfl, rfl, trivial⟩ (t_read ?_)
          have e : r = pqBad r3 := hr.trans (if_neg ht0)
          refine ⟨_, rfl, J1, K1, rfl, ?_, fun _ => ?_, fun q => absurd q (by rw [e]; exact (by decide : ¬ true = false))⟩
          · rw [e, if_pos (show (pqBad r3).2.1 = true from rfl)]
            exact hJ.2.2.2.1
          · rw [e]
            exact hJ.2.2.2.2.1 rfl
    · have hbad : r2.2.1 = true := hJ.bt h2
      have hz := pqK.part (T := (tkT (zRow A t) n)) (w := -24) (by decide) r2 hbad
      rw [← hr3] at hz
      have hJ := hJ.of (s' := r3) hz.1 (hz.2.trans hbad.symm)
      have hbad := hz.2
      refine z_co iX11_read_73 ?_
      refine z_goto iX11_read_74 ?_
      refine z_is iX11_read_84 ?_
      refine z_al iX11_read_86 rfl ?_
      refine z_gf iX11_read_87 zupd_s rfl ?_
      refine z_if_ne iX11_read_90 (fun h5 => ?_) (fun h5 => ?_)
      · refine z_loc [some (zr (40, 0)), some (zi tt), some (zi w), some (zi _), some (zi _), some (zi _)] ⟨rfl, rfl, rfl, rfl, rfl, rfl, trivial⟩ (t_read ?_)
        have e : r = pqBad r3 := hr.trans (if_neg (by rw [pqTk_t hbad]; decide))
        refine ⟨_, rfl, J1, K1, rfl, ?_, fun _ => ?_, fun q => absurd q (by rw [e]; exact (by decide : ¬ true = false))⟩
        · rw [e, if_pos (show (pqBad r3).2.1 = true from rfl)]
          have := hJ.2.2.2.1
          rwa [if_pos hbad] at this
        · rw [e]
          exact hJ.2.2.2.2.1 hbad
      · exact absurd (hJ.tk.mp h5) (by rw [hbad]; decide)
  · have hbad : r1.2.1 = true := hJ.bt h1
    have hz := pqK.part (T := (tkT (zRow A t) n)) (w := -23) (by decide) r1 hbad
    rw [← hr2] at hz
    have hJ := hJ.of (s' := r2) hz.1 (hz.2.trans hbad.symm)
    have hbad := hz.2
    refine z_co iX11_read_53 ?_
    refine z_goto iX11_read_54 ?_
    refine z_is iX11_read_64 ?_
    refine z_al iX11_read_66 rfl ?_
    refine z_gf iX11_read_67 zupd_s rfl ?_
    refine z_if_eq iX11_read_70 (fun h6 => ?_) (fun h6 => ?_)
    · exact absurd (hJ.tk.mp h6) (by rw [hbad]; decide)
    · have hz := pqK.part (T := (tkT (zRow A t) n)) (w := -24) (by decide) r2 hbad
      rw [← hr3] at hz
      have hJ := hJ.of (s' := r3) hz.1 (hz.2.trans hbad.symm)
      have hbad := hz.2
      refine z_co iX11_read_73 ?_
      refine z_goto iX11_read_74 ?_
      refine z_is iX11_read_84 ?_
      refine z_al iX11_read_86 rfl ?_
      refine z_gf iX11_read_87 zupd_s rfl ?_
      refine z_if_ne iX11_read_90 (fun h7 => ?_) (fun h7 => ?_)
      · refine z_loc [some (zr (40, 0)), some (zi tt), some (zi w), some (zi _), some (zi _), some (zi _)] ⟨rfl, rfl, rfl, rfl, rfl, rfl, trivial⟩ (t_read ?_)
        have e : r = pqBad r3 := hr.trans (if_neg (by rw [pqTk_t hbad]; decide))
        refine ⟨_, rfl, J1, K1, rfl, ?_, fun _ => ?_, fun q => absurd q (by rw [e]; exact (by decide : ¬ true = false))⟩
        · rw [e, if_pos (show (pqBad r3).2.1 = true from rfl)]
          have := hJ.2.2.2.1
          rwa [if_pos hbad] at this
        · rw [e]
          exact hJ.2.2.2.2.1 hbad
      · exact absurd (hJ.tk.mp h7) (by rw [hbad]; decide)
