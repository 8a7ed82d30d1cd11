theorem pqBin_9 {a b : Int32} : pqBin (-9) a b = a * b := rfl
theorem pqBin_10 {a b : Int32} : pqBin (-10) a b = a + b := rfl
theorem pqBin_11 {a b : Int32} : pqBin (-11) a b = a - b := rfl
theorem pqBin_12 {a b : Int32} : pqBin (-12) a b = if a < b then 1 else 0 := rfl
theorem pqBin_13 {a b : Int32} : pqBin (-13) a b = if a = b then 1 else 0 := rfl
theorem pqBin_14 {a b : Int32} : pqBin (-14) a b = if a ≠ 0 ∧ b ≠ 0 then 1 else 0 := rfl
theorem pqBin_15 {a b : Int32} : pqBin (-15) a b = if a ≠ 0 ∨ b ≠ 0 then 1 else 0 := rfl
set_option maxRecDepth 20000 in
set_option maxHeartbeats 4000000 in
theorem lm_term {fr : Nat} {t n : Nat} {M0 : zM} {I : zSI} {A : zSA} {env : Nat → Int32} {od : Int32} {F : Nat} (hE : pqE (tkC (zRow A t) n) (tkT (zRow A t) n)) (h19 : M0 (41, 19) = some (.inl (0, 960, .inl (A 19)))) (ht : t < 6) (hn16 : n ≤ 160) (hu : ∀ j, j < n → 0 ≤ (zRow A t j).toInt ∧ (zRow A t j).toInt ≤ 255) {m m2 : Nat} {one : pqS → pqS} (H : mC zX11_one M0 I A t n env F od m2 one) (hm : m2 + 1 ≤ m) (hF : 3 ≤ F) (hf : F + 1 ≤ fr) {s0 : pqS} (hw : pqWf (tkC (zRow A t) n) s0) : ∀ (k : Nat) (M : zM) (s1 : pqS) (v : Int32), (tkC (zRow A t) n) ≤ k + s1.1 → mrS M0 I A t n env od s1 M → pqSem (tkC (zRow A t) n) m env s0 s1 v → zV zX11_term fr 0 0 5 (zL [some (zr (40, 0)), some (zi v)]) [] M (fun r M' => ∃ x, r = some (zi x) ∧ mrS M0 I A t n env od (pqLp (tkT (zRow A t) n) pqT one k s1) M' ∧ pqSem (tkC (zRow A t) n) m env s0 (pqLp (tkT (zRow A t) n) pqT one k s1) x) := by
  intro k
  induction k with
  | zero =>
    intro M s1 v hk hS hsem
    obtain ⟨J, K, rfl, hJ⟩ := id hS
    refine z_al iX11_term_5 rfl ?_
    refine z_co iX11_term_6 ?_
    refine z_cv1i (fr' := fr - 1) iX11_term_8 zmX11_isSign zupd_s (cm_isSign (ch := 42) (c := -42) hS rfl (by decide)) (by omega) (Nat.le_of_ble_eq_true rfl) (fun x M1 hq => ?_)
    obtain ⟨rfl, rfl⟩ := hq
    refine z_ib_eq iX11_term_11 (fun h1 => ?_) (fun h1 => ?_)
    · refine z_il iX11_term_28 rfl ?_
      refine z_iret iX11_term_29 rfl ?_
      exact ⟨_, rfl, hS, hsem⟩
    · exfalso
      have z := (pqTk_lt hE h1 (by decide) (by decide)).2.2
      omega
  | succ k ih =>
    intro M s1 v hk hS hsem
    obtain ⟨J, K, rfl, hJ⟩ := id hS
    have hw1 := hsem.wf hw
    refine z_al iX11_term_5 rfl ?_
    refine z_co iX11_term_6 ?_
    refine z_cv1i (fr' := fr - 1) iX11_term_8 zmX11_isSign zupd_s (cm_isSign (ch := 42) (c := -42) hS rfl (by decide)) (by omega) (Nat.le_of_ble_eq_true rfl) (fun x M1 hq => ?_)
    obtain ⟨rfl, rfl⟩ := hq
    refine z_ib_eq iX11_term_11 (fun h1 => ?_) (fun h1 => ?_)
    · refine z_il iX11_term_28 rfl ?_
      refine z_iret iX11_term_29 rfl ?_
      rw [pqLp_n (f := pqT) (if_neg h1)]
      exact ⟨_, rfl, hS, hsem⟩
    · refine z_al iX11_term_14 rfl ?_
      refine z_cv0v (fr' := fr - 1) iX11_term_15 zmX11_next zupd_s (cm_next (by omega) h19 ht hn16 hu hS (by rw [h1]; decide) (by rw [h1]; decide)) (by omega) (Nat.le_of_ble_eq_true rfl) (fun M1 hq => ?_)
      have hw2 := pqAdv_wf hE h1 (by decide) (by decide) hw1
      have hS := hq
      obtain ⟨J, K, rfl, hJ⟩ := id hS
      refine z_il iX11_term_18 rfl ?_
      refine z_al iX11_term_19 rfl ?_
      refine z_cv0i (fr' := fr - 1) iX11_term_20 zmX11_one zupd_s (H _ _ _ (by omega) hS hw2) (by omega) (Nat.le_of_ble_eq_true rfl) (fun x M1 hq => ?_)
      obtain ⟨hS, hsem2⟩ := hq
      obtain ⟨J, K, rfl, hJ⟩ := id hS
      refine z_imul iX11_term_23 ?_
      refine z_is iX11_term_24 ?_
      refine z_goto iX11_term_25 ?_
      rw [pqLp_s (f := pqT) (x := -9) (if_pos h1)]
      have hnew := hsem.bin hE hw hsem2 hm (x := -9) (by decide)
      have hgr : (tkC (zRow A t) n) ≤ k + (pqAdd (-9) (one (pqAdv s1))).1 := by
        obtain ⟨w9, -, i2, -, -⟩ := hsem2
        have i2 : s1.1 + 1 + w9.length ≤ (pqAdd (-9) (one (pqAdv s1))).1 := i2
        omega
      refine z_loc [some (zr (40, 0)), some (zi (pqBin (-9) v x))] ⟨rfl, rfl, trivial⟩ (ih _ _ _ hgr (hS.of rfl rfl) hnew)
set_option maxRecDepth 20000 in
set_option maxHeartbeats 4000000 in
theorem cm_term {t n : Nat} {M0 : zM} {I : zSI} {A : zSA} {env : Nat → Int32} {od : Int32} {F : Nat} (hE : pqE (tkC (zRow A t) n) (tkT (zRow A t) n)) (h19 : M0 (41, 19) = some (.inl (0, 960, .inl (A 19)))) (ht : t < 6) (hn16 : n ≤ 160) (hu : ∀ j, j < n → 0 ≤ (zRow A t j).toInt ∧ (zRow A t j).toInt ≤ 255) {m2 : Nat} {one : pqS → pqS} (H : mC zX11_one M0 I A t n env F od m2 one) (hF : 3 ≤ F) : mC zX11_term M0 I A t n env (F + 1) od (m2 + 1) (pqTerm (tkT (zRow A t) n) one) := by
  intro fr M s hf hS hw
  obtain ⟨J, K, rfl, hJ⟩ := id hS
  refine z_enter (L := [some (zr (40, 0))]) rfl (by decide +kernel) (Nat.le_of_ble_eq_true rfl) ?_
  refine z_al iX11_term_0 rfl ?_
  refine z_cv0i (fr' := fr - 1) iX11_term_1 zmX11_one zupd_s (H _ _ _ (by omega) hS hw) (by omega) (Nat.le_of_ble_eq_true rfl) (fun x M1 hq => ?_)
  obtain ⟨hS, hsem⟩ := hq
  obtain ⟨J, K, rfl, hJ⟩ := id hS
  refine z_is iX11_term_4 ?_
  refine z_loc [some (zr (40, 0)), some (zi x)] ⟨rfl, rfl, trivial⟩ ?_
  exact lm_term hE h19 ht hn16 hu H (Nat.le_refl _) hF hf hw 160 _ _ _ (by have := hE.1; omega) hS (hsem.up (by omega))
set_option maxRecDepth 20000 in
set_option maxHeartbeats 4000000 in
theorem lm_added {fr : Nat} {t n : Nat} {M0 : zM} {I : zSI} {A : zSA} {env : Nat → Int32} {od : Int32} {F : Nat} (hE : pqE (tkC (zRow A t) n) (tkT (zRow A t) n)) (h19 : M0 (41, 19) = some (.inl (0, 960, .inl (A 19)))) (ht : t < 6) (hn16 : n ≤ 160) (hu : ∀ j, j < n → 0 ≤ (zRow A t j).toInt ∧ (zRow A t j).toInt ≤ 255) {m m2 : Nat} {one : pqS → pqS} (H : mC zX11_term M0 I A t n env F od m2 (pqTerm (tkT (zRow A t) n) one)) (hm : m2 + 1 ≤ m) (hF : 3 ≤ F) (hf : F + 1 ≤ fr) {s0 : pqS} (hw : pqWf (tkC (zRow A t) n) s0) : ∀ (k : Nat) (M : zM) (s1 : pqS) (v : Int32), (tkC (zRow A t) n) ≤ k + s1.1 → mrS M0 I A t n env od s1 M → pqSem (tkC (zRow A t) n) m env s0 s1 v → zV zX11_added fr 0 0 5 (zL [some (zr (40, 0)), some (zi v)]) [] M (fun r M' => ∃ x, r = some (zi x) ∧ mrS M0 I A t n env od (pqLp (tkT (zRow A t) n) pqU (pqTerm (tkT (zRow A t) n) one) k s1) M' ∧ pqSem (tkC (zRow A t) n) m env s0 (pqLp (tkT (zRow A t) n) pqU (pqTerm (tkT (zRow A t) n) one) k s1) x) := by
  intro k
  induction k with
  | zero =>
    intro M s1 v hk hS hsem
    obtain ⟨J, K, rfl, hJ⟩ := id hS
    refine z_al iX11_added_5 rfl ?_
    refine z_co iX11_added_6 ?_
    refine z_cv1i (fr' := fr - 1) iX11_added_8 zmX11_isSign zupd_s (cm_isSign (ch := 43) (c := -43) hS rfl (by decide)) (by omega) (Nat.le_of_ble_eq_true rfl) (fun x M1 hq => ?_)
    obtain ⟨rfl, rfl⟩ := hq
    refine z_ib_ne iX11_added_11 (fun h1 => ?_) (fun h1 => ?_)
    · exfalso
      have z := (pqTk_lt hE h1 (by decide) (by decide)).2.2
      omega
    · refine z_al iX11_added_14 rfl ?_
      refine z_co iX11_added_15 ?_
      refine z_cv1i (fr' := fr - 1) iX11_added_17 zmX11_isSign zupd_s (cm_isSign (ch := 45) (c := -45) hS rfl (by decide)) (by omega) (Nat.le_of_ble_eq_true rfl) (fun x M1 hq => ?_)
      obtain ⟨rfl, rfl⟩ := hq
      refine z_ib_eq iX11_added_20 (fun h2 => ?_) (fun h2 => ?_)
      · refine z_il iX11_added_66 rfl ?_
        refine z_iret iX11_added_67 rfl ?_
        exact ⟨_, rfl, hS, hsem⟩
      · exfalso
        have z := (pqTk_lt hE h2 (by decide) (by decide)).2.2
        omega
  | succ k ih =>
    intro M s1 v hk hS hsem
    obtain ⟨J, K, rfl, hJ⟩ := id hS
    have hw1 := hsem.wf hw
    refine z_al iX11_added_5 rfl ?_
    refine z_co iX11_added_6 ?_
    refine z_cv1i (fr' := fr - 1) iX11_added_8 zmX11_isSign zupd_s (cm_isSign (ch := 43) (c := -43) hS rfl (by decide)) (by omega) (Nat.le_of_ble_eq_true rfl) (fun x M1 hq => ?_)
    obtain ⟨rfl, rfl⟩ := hq
    refine z_ib_ne iX11_added_11 (fun h1 => ?_) (fun h1 => ?_)
    · have ha := h1
      have hK := ((mk_sign (ch := 43) hJ.2.2.2.2.2.1 rfl (by decide)).mpr (pqTk_b ha (by decide)).2).2
      refine z_al iX11_added_23 rfl ?_
      refine z_gf iX11_added_24 zupd_s rfl ?_
      refine z_cl iX11_added_27 ?_
      refine z_lcmp iX11_added_30 ?_
      refine z_if_ne iX11_added_31 (fun h2 => ?_) (fun h2 => ?_)
      · exact absurd (by rw [hK]; exact lg_cmp_self) h2
      · refine z_co iX11_added_34 ?_
        refine z_goto iX11_added_35 ?_
        refine z_is iX11_added_39 ?_
        refine z_al iX11_added_40 rfl ?_
        refine z_cv0v (fr' := fr - 1) iX11_added_41 zmX11_next zupd_s (cm_next (by omega) h19 ht hn16 hu hS (by rw [ha]; decide) (by rw [ha]; decide)) (by omega) (Nat.le_of_ble_eq_true rfl) (fun M1 hq => ?_)
        have hw2 := pqAdv_wf hE ha (by decide) (by decide) hw1
        have hS := hq
        obtain ⟨J, K, rfl, hJ⟩ := id hS
        refine z_al iX11_added_44 rfl ?_
        refine z_cv0i (fr' := fr - 1) iX11_added_45 zmX11_term zupd_s (H _ _ _ (by omega) hS hw2) (by omega) (Nat.le_of_ble_eq_true rfl) (fun x M1 hq => ?_)
        obtain ⟨hS, hsem2⟩ := hq
        obtain ⟨J, K, rfl, hJ⟩ := id hS
        refine z_is iX11_added_48 ?_
        refine z_il iX11_added_49 rfl ?_
        refine z_if_eq iX11_added_50 (fun h3 => ?_) (fun h3 => ?_)
        · exact absurd h3 (by decide)
        · refine z_il iX11_added_53 rfl ?_
          refine z_il iX11_added_54 rfl ?_
          refine z_iadd iX11_added_55 ?_
          refine z_goto iX11_added_56 ?_
          refine z_is iX11_added_62 ?_
          refine z_goto iX11_added_63 ?_
          rw [pqLp_s (f := pqU) (x := -10) (if_pos ha)]
          have hnew := hsem.bin hE hw hsem2 hm (x := -10) (by decide)
          have hgr : (tkC (zRow A t) n) ≤ k + (pqAdd (-10) (pqTerm (tkT (zRow A t) n) one (pqAdv s1))).1 := by
            obtain ⟨w9, -, i2, -, -⟩ := hsem2
            have i2 : s1.1 + 1 + w9.length ≤ (pqAdd (-10) (pqTerm (tkT (zRow A t) n) one (pqAdv s1))).1 := i2
            omega
          refine z_loc [some (zr (40, 0)), some (zi (pqBin (-10) v x))] ⟨rfl, rfl, trivial⟩ (ih _ _ _ hgr (hS.of rfl rfl) hnew)
    · have hna := h1
      refine z_al iX11_added_14 rfl ?_
      refine z_co iX11_added_15 ?_
      refine z_cv1i (fr' := fr - 1) iX11_added_17 zmX11_isSign zupd_s (cm_isSign (ch := 45) (c := -45) hS rfl (by decide)) (by omega) (Nat.le_of_ble_eq_true rfl) (fun x M1 hq => ?_)
      obtain ⟨rfl, rfl⟩ := hq
      refine z_ib_eq iX11_added_20 (fun h4 => ?_) (fun h4 => ?_)
      · have hnb := h4
        refine z_il iX11_added_66 rfl ?_
        refine z_iret iX11_added_67 rfl ?_
        rw [pqLp_n (f := pqU) ((if_neg hna).trans (if_neg hnb))]
        exact ⟨_, rfl, hS, hsem⟩
      · have hb := h4
        have hK := ((mk_sign (ch := 45) hJ.2.2.2.2.2.1 rfl (by decide)).mpr (pqTk_b hb (by decide)).2).2
        refine z_al iX11_added_23 rfl ?_
        refine z_gf iX11_added_24 zupd_s rfl ?_
        refine z_cl iX11_added_27 ?_
        refine z_lcmp iX11_added_30 ?_
        refine z_if_ne iX11_added_31 (fun h5 => ?_) (fun h5 => ?_)
        · refine z_co iX11_added_38 ?_
          refine z_is iX11_added_39 ?_
          refine z_al iX11_added_40 rfl ?_
          refine z_cv0v (fr' := fr - 1) iX11_added_41 zmX11_next zupd_s (cm_next (by omega) h19 ht hn16 hu hS (by rw [hb]; decide) (by rw [hb]; decide)) (by omega) (Nat.le_of_ble_eq_true rfl) (fun M1 hq => ?_)
          have hw2 := pqAdv_wf hE hb (by decide) (by decide) hw1
          have hS := hq
          obtain ⟨J, K, rfl, hJ⟩ := id hS
          refine z_al iX11_added_44 rfl ?_
          refine z_cv0i (fr' := fr - 1) iX11_added_45 zmX11_term zupd_s (H _ _ _ (by omega) hS hw2) (by omega) (Nat.le_of_ble_eq_true rfl) (fun x M1 hq => ?_)
          obtain ⟨hS, hsem2⟩ := hq
          obtain ⟨J, K, rfl, hJ⟩ := id hS
          refine z_is iX11_added_48 ?_
          refine z_il iX11_added_49 rfl ?_
          refine z_if_eq iX11_added_50 (fun h6 => ?_) (fun h6 => ?_)
          · refine z_il iX11_added_59 rfl ?_
            refine z_il iX11_added_60 rfl ?_
            refine z_isub iX11_added_61 ?_
            refine z_is iX11_added_62 ?_
            refine z_goto iX11_added_63 ?_
            rw [pqLp_s (f := pqU) (x := -11) ((if_neg hna).trans (if_pos hb))]
            have hnew := hsem.bin hE hw hsem2 hm (x := -11) (by decide)
            have hgr : (tkC (zRow A t) n) ≤ k + (pqAdd (-11) (pqTerm (tkT (zRow A t) n) one (pqAdv s1))).1 := by
              obtain ⟨w9, -, i2, -, -⟩ := hsem2
              have i2 : s1.1 + 1 + w9.length ≤ (pqAdd (-11) (pqTerm (tkT (zRow A t) n) one (pqAdv s1))).1 := i2
              omega
            refine z_loc [some (zr (40, 0)), some (zi (pqBin (-11) v x))] ⟨rfl, rfl, trivial⟩ (ih _ _ _ hgr (hS.of rfl rfl) hnew)
          · exact absurd rfl h6
        · rw [hK] at h5
          exact absurd h5 (by decide)
set_option maxRecDepth 20000 in
set_option maxHeartbeats 4000000 in
theorem cm_added {t n : Nat} {M0 : zM} {I : zSI} {A : zSA} {env : Nat → Int32} {od : Int32} {F : Nat} (hE : pqE (tkC (zRow A t) n) (tkT (zRow A t) n)) (h19 : M0 (41, 19) = some (.inl (0, 960, .inl (A 19)))) (ht : t < 6) (hn16 : n ≤ 160) (hu : ∀ j, j < n → 0 ≤ (zRow A t j).toInt ∧ (zRow A t j).toInt ≤ 255) {m2 : Nat} {one : pqS → pqS} (H : mC zX11_term M0 I A t n env F od m2 (pqTerm (tkT (zRow A t) n) one)) (hF : 3 ≤ F) : mC zX11_added M0 I A t n env (F + 1) od (m2 + 1) (pqSum (tkT (zRow A t) n) one) := by
  intro fr M s hf hS hw
  obtain ⟨J, K, rfl, hJ⟩ := id hS
  refine z_enter (L := [some (zr (40, 0))]) rfl (by decide +kernel) (Nat.le_of_ble_eq_true rfl) ?_
  refine z_al iX11_added_0 rfl ?_
  refine z_cv0i (fr' := fr - 1) iX11_added_1 zmX11_term zupd_s (H _ _ _ (by omega) hS hw) (by omega) (Nat.le_of_ble_eq_true rfl) (fun x M1 hq => ?_)
  obtain ⟨hS, hsem⟩ := hq
  obtain ⟨J, K, rfl, hJ⟩ := id hS
  refine z_is iX11_added_4 ?_
  refine z_loc [some (zr (40, 0)), some (zi x)] ⟨rfl, rfl, trivial⟩ ?_
  exact lm_added hE h19 ht hn16 hu H (Nat.le_refl _) hF hf hw 160 _ _ _ (by have := hE.1; omega) hS (hsem.up (by omega))
set_option maxRecDepth 20000 in
set_option maxHeartbeats 4000000 in
theorem lm_both {fr : Nat} {t n : Nat} {M0 : zM} {I : zSI} {A : zSA} {env : Nat → Int32} {od : Int32} {F : Nat} (hE : pqE (tkC (zRow A t) n) (tkT (zRow A t) n)) (h19 : M0 (41, 19) = some (.inl (0, 960, .inl (A 19)))) (ht : t < 6) (hn16 : n ≤ 160) (hu : ∀ j, j < n → 0 ≤ (zRow A t j).toInt ∧ (zRow A t j).toInt ≤ 255) {m m2 : Nat} {nt : pqS → pqS} (H : mC zX11_not M0 I A t n env F od m2 nt) (hm : m2 + 1 ≤ m) (hF : 3 ≤ F) (hf : F + 1 ≤ fr) {s0 : pqS} (hw : pqWf (tkC (zRow A t) n) s0) : ∀ (k : Nat) (M : zM) (s1 : pqS) (v : Int32), (tkC (zRow A t) n) ≤ k + s1.1 → mrS M0 I A t n env od s1 M → pqSem (tkC (zRow A t) n) m env s0 s1 v → zV zX11_both fr 0 0 5 (zL [some (zr (40, 0)), some (zi v)]) [] M (fun r M' => ∃ x, r = some (zi x) ∧ mrS M0 I A t n env od (pqLp (tkT (zRow A t) n) pqA nt k s1) M' ∧ pqSem (tkC (zRow A t) n) m env s0 (pqLp (tkT (zRow A t) n) pqA nt k s1) x) := by
  intro k
  induction k with
  | zero =>
    intro M s1 v hk hS hsem
    obtain ⟨J, K, rfl, hJ⟩ := id hS
    refine z_al iX11_both_5 rfl ?_
    refine z_cl iX11_both_6 ?_
    refine z_cv1i (fr' := fr - 1) iX11_both_9 zmX11_isWord zupd_s (cm_isWord hS mw_and (by decide)) (by omega) (Nat.le_of_ble_eq_true rfl) (fun x M1 hq => ?_)
    obtain ⟨rfl, rfl⟩ := hq
    refine z_ib_eq iX11_both_12 (fun h1 => ?_) (fun h1 => ?_)
    · refine z_il iX11_both_41 rfl ?_
      refine z_iret iX11_both_42 rfl ?_
      exact ⟨_, rfl, hS, hsem⟩
    · exfalso
      have z := (pqTk_lt hE h1 (by decide) (by decide)).2.2
      omega
  | succ k ih =>
    intro M s1 v hk hS hsem
    obtain ⟨J, K, rfl, hJ⟩ := id hS
    have hw1 := hsem.wf hw
    refine z_al iX11_both_5 rfl ?_
    refine z_cl iX11_both_6 ?_
    refine z_cv1i (fr' := fr - 1) iX11_both_9 zmX11_isWord zupd_s (cm_isWord hS mw_and (by decide)) (by omega) (Nat.le_of_ble_eq_true rfl) (fun x M1 hq => ?_)
    obtain ⟨rfl, rfl⟩ := hq
    refine z_ib_eq iX11_both_12 (fun h1 => ?_) (fun h1 => ?_)
    · refine z_il iX11_both_41 rfl ?_
      refine z_iret iX11_both_42 rfl ?_
      rw [pqLp_n (f := pqA) (if_neg h1)]
      exact ⟨_, rfl, hS, hsem⟩
    · refine z_al iX11_both_15 rfl ?_
      refine z_cv0v (fr' := fr - 1) iX11_both_16 zmX11_next zupd_s (cm_next (by omega) h19 ht hn16 hu hS (by rw [h1]; decide) (by rw [h1]; decide)) (by omega) (Nat.le_of_ble_eq_true rfl) (fun M1 hq => ?_)
      have hw2 := pqAdv_wf hE h1 (by decide) (by decide) hw1
      have hS := hq
      obtain ⟨J, K, rfl, hJ⟩ := id hS
      refine z_al iX11_both_19 rfl ?_
      refine z_cv0i (fr' := fr - 1) iX11_both_20 zmX11_not zupd_s (H _ _ _ (by omega) hS hw2) (by omega) (Nat.le_of_ble_eq_true rfl) (fun x M1 hq => ?_)
      obtain ⟨hS, hsem2⟩ := hq
      obtain ⟨J, K, rfl, hJ⟩ := id hS
      refine z_is iX11_both_23 ?_
      refine z_il iX11_both_24 rfl ?_
      refine z_if_eq iX11_both_25 (fun h2 => ?_) (fun h2 => ?_)
      · refine z_co iX11_both_36 ?_
        refine z_is iX11_both_37 ?_
        refine z_goto iX11_both_38 ?_
        rw [pqLp_s (f := pqA) (x := -14) (if_pos h1)]
        have hnew := hsem.bin hE hw hsem2 hm (x := -14) (by decide)
        have hgr : (tkC (zRow A t) n) ≤ k + (pqAdd (-14) (nt (pqAdv s1))).1 := by
          obtain ⟨w9, -, i2, -, -⟩ := hsem2
          have i2 : s1.1 + 1 + w9.length ≤ (pqAdd (-14) (nt (pqAdv s1))).1 := i2
          omega
        refine z_loc [some (zr (40, 0)), some (zi (pqBin (-14) v x))] ⟨rfl, (by rw [pqBin_14, if_neg (fun q => q.1 h2)]; rfl), trivial⟩ (ih _ _ _ hgr (hS.of rfl rfl) hnew)
      · refine z_il iX11_both_28 rfl ?_
        refine z_if_eq iX11_both_29 (fun h3 => ?_) (fun h3 => ?_)
        · refine z_co iX11_both_36 ?_
          refine z_is iX11_both_37 ?_
          refine z_goto iX11_both_38 ?_
          rw [pqLp_s (f := pqA) (x := -14) (if_pos h1)]
          have hnew := hsem.bin hE hw hsem2 hm (x := -14) (by decide)
          have hgr : (tkC (zRow A t) n) ≤ k + (pqAdd (-14) (nt (pqAdv s1))).1 := by
            obtain ⟨w9, -, i2, -, -⟩ := hsem2
            have i2 : s1.1 + 1 + w9.length ≤ (pqAdd (-14) (nt (pqAdv s1))).1 := i2
            omega
          refine z_loc [some (zr (40, 0)), some (zi (pqBin (-14) v x))] ⟨rfl, (by rw [pqBin_14, if_neg (fun q => q.2 h3)]; rfl), trivial⟩ (ih _ _ _ hgr (hS.of rfl rfl) hnew)
        · refine z_co iX11_both_32 ?_
          refine z_goto iX11_both_33 ?_
          refine z_is iX11_both_37 ?_
          refine z_goto iX11_both_38 ?_
          rw [pqLp_s (f := pqA) (x := -14) (if_pos h1)]
          have hnew := hsem.bin hE hw hsem2 hm (x := -14) (by decide)
          have hgr : (tkC (zRow A t) n) ≤ k + (pqAdd (-14) (nt (pqAdv s1))).1 := by
            obtain ⟨w9, -, i2, -, -⟩ := hsem2
            have i2 : s1.1 + 1 + w9.length ≤ (pqAdd (-14) (nt (pqAdv s1))).1 := i2
            omega
          refine z_loc [some (zr (40, 0)), some (zi (pqBin (-14) v x))] ⟨rfl, (by rw [pqBin_14, if_pos ⟨h2, h3⟩]; rfl), trivial⟩ (ih _ _ _ hgr (hS.of rfl rfl) hnew)
set_option maxRecDepth 20000 in
set_option maxHeartbeats 4000000 in
theorem cm_both {t n : Nat} {M0 : zM} {I : zSI} {A : zSA} {env : Nat → Int32} {od : Int32} {F : Nat} (hE : pqE (tkC (zRow A t) n) (tkT (zRow A t) n)) (h19 : M0 (41, 19) = some (.inl (0, 960, .inl (A 19)))) (ht : t < 6) (hn16 : n ≤ 160) (hu : ∀ j, j < n → 0 ≤ (zRow A t j).toInt ∧ (zRow A t j).toInt ≤ 255) {m2 : Nat} {nt : pqS → pqS} (H : mC zX11_not M0 I A t n env F od m2 nt) (hF : 3 ≤ F) : mC zX11_both M0 I A t n env (F + 1) od (m2 + 1) (pqBoth (tkT (zRow A t) n) nt) := by
  intro fr M s hf hS hw
  obtain ⟨J, K, rfl, hJ⟩ := id hS
  refine z_enter (L := [some (zr (40, 0))]) rfl (by decide +kernel) (Nat.le_of_ble_eq_true rfl) ?_
  refine z_al iX11_both_0 rfl ?_
  refine z_cv0i (fr' := fr - 1) iX11_both_1 zmX11_not zupd_s (H _ _ _ (by omega) hS hw) (by omega) (Nat.le_of_ble_eq_true rfl) (fun x M1 hq => ?_)
  obtain ⟨hS, hsem⟩ := hq
  obtain ⟨J, K, rfl, hJ⟩ := id hS
  refine z_is iX11_both_4 ?_
  refine z_loc [some (zr (40, 0)), some (zi x)] ⟨rfl, rfl, trivial⟩ ?_
  exact lm_both hE h19 ht hn16 hu H (Nat.le_refl _) hF hf hw 160 _ _ _ (by have := hE.1; omega) hS (hsem.up (by omega))
set_option maxRecDepth 20000 in
set_option maxHeartbeats 4000000 in
theorem lm_either {fr : Nat} {t n : Nat} {M0 : zM} {I : zSI} {A : zSA} {env : Nat → Int32} {od : Int32} {F : Nat} (hE : pqE (tkC (zRow A t) n) (tkT (zRow A t) n)) (h19 : M0 (41, 19) = some (.inl (0, 960, .inl (A 19)))) (ht : t < 6) (hn16 : n ≤ 160) (hu : ∀ j, j < n → 0 ≤ (zRow A t j).toInt ∧ (zRow A t j).toInt ≤ 255) {m m2 : Nat} {nt : pqS → pqS} (H : mC zX11_both M0 I A t n env F od m2 (pqBoth (tkT (zRow A t) n) nt)) (hm : m2 + 1 ≤ m) (hF : 3 ≤ F) (hf : F + 1 ≤ fr) {s0 : pqS} (hw : pqWf (tkC (zRow A t) n) s0) : ∀ (k : Nat) (M : zM) (s1 : pqS) (v : Int32), (tkC (zRow A t) n) ≤ k + s1.1 → mrS M0 I A t n env od s1 M → pqSem (tkC (zRow A t) n) m env s0 s1 v → zV zX11_either fr 0 0 5 (zL [some (zr (40, 0)), some (zi v)]) [] M (fun r M' => ∃ x, r = some (zi x) ∧ mrS M0 I A t n env od (pqLp (tkT (zRow A t) n) pqO (pqBoth (tkT (zRow A t) n) nt) k s1) M' ∧ pqSem (tkC (zRow A t) n) m env s0 (pqLp (tkT (zRow A t) n) pqO (pqBoth (tkT (zRow A t) n) nt) k s1) x) := by
  intro k
  induction k with
  | zero =>
    intro M s1 v hk hS hsem
    obtain ⟨J, K, rfl, hJ⟩ := id hS
    refine z_al iX11_either_5 rfl ?_
    refine z_cl iX11_either_6 ?_
    refine z_cv1i (fr' := fr - 1) iX11_either_9 zmX11_isWord zupd_s (cm_isWord hS mw_or (by decide)) (by omega) (Nat.le_of_ble_eq_true rfl) (fun x M1 hq => ?_)
    obtain ⟨rfl, rfl⟩ := hq
    refine z_ib_eq iX11_either_12 (fun h1 => ?_) (fun h1 => ?_)
    · refine z_il iX11_either_41 rfl ?_
      refine z_iret iX11_either_42 rfl ?_
      exact ⟨_, rfl, hS, hsem⟩
    · exfalso
      have z := (pqTk_lt hE h1 (by decide) (by decide)).2.2
      omega
  | succ k ih =>
    intro M s1 v hk hS hsem
    obtain ⟨J, K, rfl, hJ⟩ := id hS
    have hw1 := hsem.wf hw
    refine z_al iX11_either_5 rfl ?_
    refine z_cl iX11_either_6 ?_
    refine z_cv1i (fr' := fr - 1) iX11_either_9 zmX11_isWord zupd_s (cm_isWord hS mw_or (by decide)) (by omega) (Nat.le_of_ble_eq_true rfl) (fun x M1 hq => ?_)
    obtain ⟨rfl, rfl⟩ := hq
    refine z_ib_eq iX11_either_12 (fun h1 => ?_) (fun h1 => ?_)
    · refine z_il iX11_either_41 rfl ?_
      refine z_iret iX11_either_42 rfl ?_
      rw [pqLp_n (f := pqO) (if_neg h1)]
      exact ⟨_, rfl, hS, hsem⟩
    · refine z_al iX11_either_15 rfl ?_
      refine z_cv0v (fr' := fr - 1) iX11_either_16 zmX11_next zupd_s (cm_next (by omega) h19 ht hn16 hu hS (by rw [h1]; decide) (by rw [h1]; decide)) (by omega) (Nat.le_of_ble_eq_true rfl) (fun M1 hq => ?_)
      have hw2 := pqAdv_wf hE h1 (by decide) (by decide) hw1
      have hS := hq
      obtain ⟨J, K, rfl, hJ⟩ := id hS
      refine z_al iX11_either_19 rfl ?_
      refine z_cv0i (fr' := fr - 1) iX11_either_20 zmX11_both zupd_s (H _ _ _ (by omega) hS hw2) (by omega) (Nat.le_of_ble_eq_true rfl) (fun x M1 hq => ?_)
      obtain ⟨hS, hsem2⟩ := hq
      obtain ⟨J, K, rfl, hJ⟩ := id hS
      refine z_is iX11_either_23 ?_
      refine z_il iX11_either_24 rfl ?_
      refine z_if_ne iX11_either_25 (fun h2 => ?_) (fun h2 => ?_)
      · refine z_co iX11_either_32 ?_
        refine z_goto iX11_either_33 ?_
        refine z_is iX11_either_37 ?_
        refine z_goto iX11_either_38 ?_
        rw [pqLp_s (f := pqO) (x := -15) (if_pos h1)]
        have hnew := hsem.bin hE hw hsem2 hm (x := -15) (by decide)
        have hgr : (tkC (zRow A t) n) ≤ k + (pqAdd (-15) (pqBoth (tkT (zRow A t) n) nt (pqAdv s1))).1 := by
          obtain ⟨w9, -, i2, -, -⟩ := hsem2
          have i2 : s1.1 + 1 + w9.length ≤ (pqAdd (-15) (pqBoth (tkT (zRow A t) n) nt (pqAdv s1))).1 := i2
          omega
        refine z_loc [some (zr (40, 0)), some (zi (pqBin (-15) v x))] ⟨rfl, (by rw [pqBin_15, if_pos (Or.inl h2)]; rfl), trivial⟩ (ih _ _ _ hgr (hS.of rfl rfl) hnew)
      · refine z_il iX11_either_28 rfl ?_
        refine z_if_eq iX11_either_29 (fun h3 => ?_) (fun h3 => ?_)
        · refine z_co iX11_either_36 ?_
          refine z_is iX11_either_37 ?_
          refine z_goto iX11_either_38 ?_
          rw [pqLp_s (f := pqO) (x := -15) (if_pos h1)]
          have hnew := hsem.bin hE hw hsem2 hm (x := -15) (by decide)
          have hgr : (tkC (zRow A t) n) ≤ k + (pqAdd (-15) (pqBoth (tkT (zRow A t) n) nt (pqAdv s1))).1 := by
            obtain ⟨w9, -, i2, -, -⟩ := hsem2
            have i2 : s1.1 + 1 + w9.length ≤ (pqAdd (-15) (pqBoth (tkT (zRow A t) n) nt (pqAdv s1))).1 := i2
            omega
          refine z_loc [some (zr (40, 0)), some (zi (pqBin (-15) v x))] ⟨rfl, (by rw [pqBin_15, if_neg (fun q => q.elim (fun z => z h2) (fun z => z h3))]; rfl), trivial⟩ (ih _ _ _ hgr (hS.of rfl rfl) hnew)
        · refine z_co iX11_either_32 ?_
          refine z_goto iX11_either_33 ?_
          refine z_is iX11_either_37 ?_
          refine z_goto iX11_either_38 ?_
          rw [pqLp_s (f := pqO) (x := -15) (if_pos h1)]
          have hnew := hsem.bin hE hw hsem2 hm (x := -15) (by decide)
          have hgr : (tkC (zRow A t) n) ≤ k + (pqAdd (-15) (pqBoth (tkT (zRow A t) n) nt (pqAdv s1))).1 := by
            obtain ⟨w9, -, i2, -, -⟩ := hsem2
            have i2 : s1.1 + 1 + w9.length ≤ (pqAdd (-15) (pqBoth (tkT (zRow A t) n) nt (pqAdv s1))).1 := i2
            omega
          refine z_loc [some (zr (40, 0)), some (zi (pqBin (-15) v x))] ⟨rfl, (by rw [pqBin_15, if_pos (Or.inr h3)]; rfl), trivial⟩ (ih _ _ _ hgr (hS.of rfl rfl) hnew)
set_option maxRecDepth 20000 in
set_option maxHeartbeats 4000000 in
theorem cm_either {t n : Nat} {M0 : zM} {I : zSI} {A : zSA} {env : Nat → Int32} {od : Int32} {F : Nat} (hE : pqE (tkC (zRow A t) n) (tkT (zRow A t) n)) (h19 : M0 (41, 19) = some (.inl (0, 960, .inl (A 19)))) (ht : t < 6) (hn16 : n ≤ 160) (hu : ∀ j, j < n → 0 ≤ (zRow A t j).toInt ∧ (zRow A t j).toInt ≤ 255) {m2 : Nat} {nt : pqS → pqS} (H : mC zX11_both M0 I A t n env F od m2 (pqBoth (tkT (zRow A t) n) nt)) (hF : 3 ≤ F) : mC zX11_either M0 I A t n env (F + 1) od (m2 + 1) (pqEith (tkT (zRow A t) n) nt) := by
  intro fr M s hf hS hw
  obtain ⟨J, K, rfl, hJ⟩ := id hS
  refine z_enter (L := [some (zr (40, 0))]) rfl (by decide +kernel) (Nat.le_of_ble_eq_true rfl) ?_
  refine z_al iX11_either_0 rfl ?_
  refine z_cv0i (fr' := fr - 1) iX11_either_1 zmX11_both zupd_s (H _ _ _ (by omega) hS hw) (by omega) (Nat.le_of_ble_eq_true rfl) (fun x M1 hq => ?_)
  obtain ⟨hS, hsem⟩ := hq
  obtain ⟨J, K, rfl, hJ⟩ := id hS
  refine z_is iX11_either_4 ?_
  refine z_loc [some (zr (40, 0)), some (zi x)] ⟨rfl, rfl, trivial⟩ ?_
  exact lm_either hE h19 ht hn16 hu H (Nat.le_refl _) hF hf hw 160 _ _ _ (by have := hE.1; omega) hS (hsem.up (by omega))
set_option maxRecDepth 20000 in
set_option maxHeartbeats 4000000 in
theorem cm_not0 {t n : Nat} {M0 : zM} {I : zSI} {A : zSA} {env : Nat → Int32} {od : Int32} {F : Nat} (hE : pqE (tkC (zRow A t) n) (tkT (zRow A t) n)) (h19 : M0 (41, 19) = some (.inl (0, 960, .inl (A 19)))) (ht : t < 6) (hn16 : n ≤ 160) (hu : ∀ j, j < n → 0 ≤ (zRow A t j).toInt ∧ (zRow A t j).toInt ≤ 255) {m : Nat} {one : pqS → pqS} (Hs : mC zX11_added M0 I A t n env F od (m + 2) (pqSum (tkT (zRow A t) n) one)) (hF : 4 ≤ F) (ho : od = 5) : mC zX11_not M0 I A t n env (F + 1) od (m + 3) (pqNot0 (tkT (zRow A t) n) one) := by
  intro fr M s hf hS hw
  obtain ⟨J, K, rfl, hJ⟩ := id hS
  refine z_enter (L := [some (zr (40, 0))]) rfl (by decide +kernel) (Nat.le_of_ble_eq_true rfl) ?_
  refine z_al iX11_not_0 rfl ?_
  refine z_cl iX11_not_1 ?_
  refine z_cv1i (fr' := fr - 1) iX11_not_4 zmX11_isWord zupd_s (cm_isWord hS mw_not (by decide)) (by omega) (Nat.le_of_ble_eq_true rfl) (fun x M1 hq => ?_)
  obtain ⟨rfl, rfl⟩ := hq
  refine z_ib_eq iX11_not_7 (fun h1 => ?_) (fun h1 => ?_)
  · refine z_al iX11_not_44 rfl ?_
    refine z_cv0i (fr' := fr - 1) iX11_not_45 zmX11_added zupd_s (Hs _ _ _ (by omega) hS hw) (by omega) (Nat.le_of_ble_eq_true rfl) (fun x M1 hq => ?_)
    obtain ⟨hS, hsem⟩ := hq
    have hw1 := hsem.wf hw
    have hJs := hJ
    obtain ⟨J, K, rfl, hJ⟩ := id hS
    refine z_is iX11_not_48 ?_
    refine z_al iX11_not_49 rfl ?_
    refine z_co iX11_not_50 ?_
    refine z_cv1i (fr' := fr - 1) iX11_not_52 zmX11_isSign zupd_s (cm_isSign (ch := 60) (c := -60) hS rfl (by decide)) (by omega) (Nat.le_of_ble_eq_true rfl) (fun x M1 hq => ?_)
    obtain ⟨rfl, rfl⟩ := hq
    refine z_ib_ne iX11_not_55 (fun h2 => ?_) (fun h2 => ?_)
    · have ha := h2
      have hK := ((mk_sign (ch := 60) hJ.2.2.2.2.2.1 rfl (by decide)).mpr (pqTk_b ha (by decide)).2).2
      refine z_al iX11_not_69 rfl ?_
      refine z_gf iX11_not_70 zupd_s rfl ?_
      refine z_cl iX11_not_73 ?_
      refine z_lcmp iX11_not_76 ?_
      refine z_if_ne iX11_not_77 (fun h3 => ?_) (fun h3 => ?_)
      · exact absurd (by rw [hK]; exact lg_cmp_self) h3
      · refine z_co iX11_not_80 ?_
        refine z_goto iX11_not_81 ?_
        refine z_is iX11_not_85 ?_
        refine z_al iX11_not_86 rfl ?_
        refine z_cv0v (fr' := fr - 1) iX11_not_87 zmX11_next zupd_s (cm_next (by omega) h19 ht hn16 hu hS (by rw [ha]; decide) (by rw [ha]; decide)) (by omega) (Nat.le_of_ble_eq_true rfl) (fun M1 hq => ?_)
        have hw2 := pqAdv_wf hE ha (by decide) (by decide) hw1
        have hS := hq
        obtain ⟨J, K, rfl, hJ⟩ := id hS
        refine z_al iX11_not_90 rfl ?_
        refine z_cv0i (fr' := fr - 1) iX11_not_91 zmX11_added zupd_s (Hs _ _ _ (by omega) hS hw2) (by omega) (Nat.le_of_ble_eq_true rfl) (fun x M1 hq => ?_)
        have xv := x
        obtain ⟨hS, hsem2⟩ := hq
        obtain ⟨J, K, rfl, hJ⟩ := id hS
        refine z_is iX11_not_94 ?_
        refine z_il iX11_not_95 rfl ?_
        refine z_if_eq iX11_not_96 (fun h4 => ?_) (fun h4 => ?_)
        · exact absurd h4 (by decide)
        · refine z_il iX11_not_99 rfl ?_
          refine z_il iX11_not_100 rfl ?_
          refine z_icmp_ge iX11_not_101 (fun h5 => ?_) (fun h5 => ?_)
          · refine z_co iX11_not_116 ?_
            refine z_iret iX11_not_117 rfl ?_
            have e : (pqNot0 (tkT (zRow A t) n) one) s = pqCmp (tkT (zRow A t) n) one s := by unfold pqNot0; rw [if_neg h1]
            rw [e]
            unfold pqCmp pqCmp2
            rw [if_pos ha]
            have hnew := (hsem.up (show m + 2 ≤ m + 3 by omega)).bin hE hw hsem2 (by omega) (x := -12) (by decide)
            rw [pqBin_12, if_neg (Int32.not_lt.mpr h5)] at hnew
            exact ⟨_, rfl, hS.of rfl rfl, hnew⟩
          · refine z_goto iX11_not_104 ?_
            refine z_co iX11_not_112 ?_
            refine z_goto iX11_not_113 ?_
            refine z_iret iX11_not_117 rfl ?_
            have e : (pqNot0 (tkT (zRow A t) n) one) s = pqCmp (tkT (zRow A t) n) one s := by unfold pqNot0; rw [if_neg h1]
            rw [e]
            unfold pqCmp pqCmp2
            rw [if_pos ha]
            have hnew := (hsem.up (show m + 2 ≤ m + 3 by omega)).bin hE hw hsem2 (by omega) (x := -12) (by decide)
            rw [pqBin_12, if_pos (Int32.not_le.mp h5)] at hnew
            exact ⟨_, rfl, hS.of rfl rfl, hnew⟩
    · have hna := h2
      refine z_al iX11_not_58 rfl ?_
      refine z_co iX11_not_59 ?_
      refine z_cv1i (fr' := fr - 1) iX11_not_61 zmX11_isSign zupd_s (cm_isSign (ch := 61) (c := -61) hS rfl (by decide)) (by omega) (Nat.le_of_ble_eq_true rfl) (fun x M1 hq => ?_)
      obtain ⟨rfl, rfl⟩ := hq
      refine z_ib_ne iX11_not_64 (fun h6 => ?_) (fun h6 => ?_)
      · have hb := h6
        have hK := ((mk_sign (ch := 61) hJ.2.2.2.2.2.1 rfl (by decide)).mpr (pqTk_b hb (by decide)).2).2
        refine z_al iX11_not_69 rfl ?_
        refine z_gf iX11_not_70 zupd_s rfl ?_
        refine z_cl iX11_not_73 ?_
        refine z_lcmp iX11_not_76 ?_
        refine z_if_ne iX11_not_77 (fun h7 => ?_) (fun h7 => ?_)
        · refine z_co iX11_not_84 ?_
          refine z_is iX11_not_85 ?_
          refine z_al iX11_not_86 rfl ?_
          refine z_cv0v (fr' := fr - 1) iX11_not_87 zmX11_next zupd_s (cm_next (by omega) h19 ht hn16 hu hS (by rw [hb]; decide) (by rw [hb]; decide)) (by omega) (Nat.le_of_ble_eq_true rfl) (fun M1 hq => ?_)
          have hw2 := pqAdv_wf hE hb (by decide) (by decide) hw1
          have hS := hq
          obtain ⟨J, K, rfl, hJ⟩ := id hS
          refine z_al iX11_not_90 rfl ?_
          refine z_cv0i (fr' := fr - 1) iX11_not_91 zmX11_added zupd_s (Hs _ _ _ (by omega) hS hw2) (by omega) (Nat.le_of_ble_eq_true rfl) (fun x M1 hq => ?_)
          have xv := x
          obtain ⟨hS, hsem2⟩ := hq
          obtain ⟨J, K, rfl, hJ⟩ := id hS
          refine z_is iX11_not_94 ?_
          refine z_il iX11_not_95 rfl ?_
          refine z_if_eq iX11_not_96 (fun h8 => ?_) (fun h8 => ?_)
          · refine z_il iX11_not_107 rfl ?_
            refine z_il iX11_not_108 rfl ?_
            refine z_icmp_ne iX11_not_109 (fun h9 => ?_) (fun h9 => ?_)
            · refine z_co iX11_not_116 ?_
              refine z_iret iX11_not_117 rfl ?_
              have e : (pqNot0 (tkT (zRow A t) n) one) s = pqCmp (tkT (zRow A t) n) one s := by unfold pqNot0; rw [if_neg h1]
              rw [e]
              unfold pqCmp pqCmp2
              rw [if_neg hna, if_pos hb]
              have hnew := (hsem.up (show m + 2 ≤ m + 3 by omega)).bin hE hw hsem2 (by omega) (x := -13) (by decide)
              rw [pqBin_13, if_neg h9] at hnew
              exact ⟨_, rfl, hS.of rfl rfl, hnew⟩
            · refine z_co iX11_not_112 ?_
              refine z_goto iX11_not_113 ?_
              refine z_iret iX11_not_117 rfl ?_
              have e : (pqNot0 (tkT (zRow A t) n) one) s = pqCmp (tkT (zRow A t) n) one s := by unfold pqNot0; rw [if_neg h1]
              rw [e]
              unfold pqCmp pqCmp2
              rw [if_neg hna, if_pos hb]
              have hnew := (hsem.up (show m + 2 ≤ m + 3 by omega)).bin hE hw hsem2 (by omega) (x := -13) (by decide)
              rw [pqBin_13, if_pos h9] at hnew
              exact ⟨_, rfl, hS.of rfl rfl, hnew⟩
          · exact absurd rfl h8
        · rw [hK] at h7
          exact absurd h7 (by decide)
      · have hnb := h6
        refine z_il iX11_not_67 rfl ?_
        refine z_iret iX11_not_68 rfl ?_
        have e : (pqNot0 (tkT (zRow A t) n) one) s = pqCmp (tkT (zRow A t) n) one s := by unfold pqNot0; rw [if_neg h1]
        rw [e]
        unfold pqCmp pqCmp2
        rw [if_neg hna, if_neg hnb]
        exact ⟨_, rfl, hS, hsem.up (by omega)⟩
  · refine z_al iX11_not_10 rfl ?_
    refine z_cv0i (fr' := fr - 1) iX11_not_11 zmX11_opens zupd_s (cm_opens5 (by omega) hS ho) (by omega) (Nat.le_of_ble_eq_true rfl) (fun x M1 hq => ?_)
    obtain ⟨rfl, hS⟩ := hq
    obtain ⟨J, K, rfl, hJ⟩ := id hS
    refine z_if_ne iX11_not_14 (fun h10 => ?_) (fun h10 => ?_)
    · exact absurd rfl h10
    · refine z_co iX11_not_17 ?_
      refine z_iret iX11_not_18 rfl ?_
      have e : (pqNot0 (tkT (zRow A t) n) one) s = pqBad s := by unfold pqNot0; rw [if_pos h1]
      rw [e]
      exact ⟨_, rfl, hS, pqSem.nil hw⟩
set_option maxRecDepth 20000 in
set_option maxHeartbeats 4000000 in
theorem cm_notS {t n : Nat} {M0 : zM} {I : zSI} {A : zSA} {env : Nat → Int32} {od : Int32} {F : Nat} (hE : pqE (tkC (zRow A t) n) (tkT (zRow A t) n)) (h19 : M0 (41, 19) = some (.inl (0, 960, .inl (A 19)))) (ht : t < 6) (hn16 : n ≤ 160) (hu : ∀ j, j < n → 0 ≤ (zRow A t j).toInt ∧ (zRow A t j).toInt ≤ 255) {m : Nat} {one : pqS → pqS} (Hs : mC zX11_added M0 I A t n env F od (m + 2 + 5) (pqSum (tkT (zRow A t) n) one)) (hF : 4 ≤ F) {nt : pqS → pqS} (Hn : mC zX11_not M0 I A t n env F (od + 1) (m + 3) nt) (ho : ¬ od = 5) : mC zX11_not M0 I A t n env (F + 1) od (m + 3 + 5) (pqNotS (tkT (zRow A t) n) nt one) := by
  intro fr M s hf hS hw
  obtain ⟨J, K, rfl, hJ⟩ := id hS
  refine z_enter (L := [some (zr (40, 0))]) rfl (by decide +kernel) (Nat.le_of_ble_eq_true rfl) ?_
  refine z_al iX11_not_0 rfl ?_
  refine z_cl iX11_not_1 ?_
  refine z_cv1i (fr' := fr - 1) iX11_not_4 zmX11_isWord zupd_s (cm_isWord hS mw_not (by decide)) (by omega) (Nat.le_of_ble_eq_true rfl) (fun x M1 hq => ?_)
  obtain ⟨rfl, rfl⟩ := hq
  refine z_ib_eq iX11_not_7 (fun h1 => ?_) (fun h1 => ?_)
  · refine z_al iX11_not_44 rfl ?_
    refine z_cv0i (fr' := fr - 1) iX11_not_45 zmX11_added zupd_s (Hs _ _ _ (by omega) hS hw) (by omega) (Nat.le_of_ble_eq_true rfl) (fun x M1 hq => ?_)
    obtain ⟨hS, hsem⟩ := hq
    have hw1 := hsem.wf hw
    have hJs := hJ
    obtain ⟨J, K, rfl, hJ⟩ := id hS
    refine z_is iX11_not_48 ?_
    refine z_al iX11_not_49 rfl ?_
    refine z_co iX11_not_50 ?_
    refine z_cv1i (fr' := fr - 1) iX11_not_52 zmX11_isSign zupd_s (cm_isSign (ch := 60) (c := -60) hS rfl (by decide)) (by omega) (Nat.le_of_ble_eq_true rfl) (fun x M1 hq => ?_)
    obtain ⟨rfl, rfl⟩ := hq
    refine z_ib_ne iX11_not_55 (fun h2 => ?_) (fun h2 => ?_)
    · have ha := h2
      have hK := ((mk_sign (ch := 60) hJ.2.2.2.2.2.1 rfl (by decide)).mpr (pqTk_b ha (by decide)).2).2
      refine z_al iX11_not_69 rfl ?_
      refine z_gf iX11_not_70 zupd_s rfl ?_
      refine z_cl iX11_not_73 ?_
      refine z_lcmp iX11_not_76 ?_
      refine z_if_ne iX11_not_77 (fun h3 => ?_) (fun h3 => ?_)
      · exact absurd (by rw [hK]; exact lg_cmp_self) h3
      · refine z_co iX11_not_80 ?_
        refine z_goto iX11_not_81 ?_
        refine z_is iX11_not_85 ?_
        refine z_al iX11_not_86 rfl ?_
        refine z_cv0v (fr' := fr - 1) iX11_not_87 zmX11_next zupd_s (cm_next (by omega) h19 ht hn16 hu hS (by rw [ha]; decide) (by rw [ha]; decide)) (by omega) (Nat.le_of_ble_eq_true rfl) (fun M1 hq => ?_)
        have hw2 := pqAdv_wf hE ha (by decide) (by decide) hw1
        have hS := hq
        obtain ⟨J, K, rfl, hJ⟩ := id hS
        refine z_al iX11_not_90 rfl ?_
        refine z_cv0i (fr' := fr - 1) iX11_not_91 zmX11_added zupd_s (Hs _ _ _ (by omega) hS hw2) (by omega) (Nat.le_of_ble_eq_true rfl) (fun x M1 hq => ?_)
        have xv := x
        obtain ⟨hS, hsem2⟩ := hq
        obtain ⟨J, K, rfl, hJ⟩ := id hS
        refine z_is iX11_not_94 ?_
        refine z_il iX11_not_95 rfl ?_
        refine z_if_eq iX11_not_96 (fun h4 => ?_) (fun h4 => ?_)
        · exact absurd h4 (by decide)
        · refine z_il iX11_not_99 rfl ?_
          refine z_il iX11_not_100 rfl ?_
          refine z_icmp_ge iX11_not_101 (fun h5 => ?_) (fun h5 => ?_)
          · refine z_co iX11_not_116 ?_
            refine z_iret iX11_not_117 rfl ?_
            have e : (pqNotS (tkT (zRow A t) n) nt one) s = pqCmp (tkT (zRow A t) n) one s := by unfold pqNotS; rw [if_neg h1]
            rw [e]
            unfold pqCmp pqCmp2
            rw [if_pos ha]
            have hnew := (hsem.up (show m + 2 + 5 ≤ m + 3 + 5 by omega)).bin hE hw hsem2 (by omega) (x := -12) (by decide)
            rw [pqBin_12, if_neg (Int32.not_lt.mpr h5)] at hnew
            exact ⟨_, rfl, hS.of rfl rfl, hnew⟩
          · refine z_goto iX11_not_104 ?_
            refine z_co iX11_not_112 ?_
            refine z_goto iX11_not_113 ?_
            refine z_iret iX11_not_117 rfl ?_
            have e : (pqNotS (tkT (zRow A t) n) nt one) s = pqCmp (tkT (zRow A t) n) one s := by unfold pqNotS; rw [if_neg h1]
            rw [e]
            unfold pqCmp pqCmp2
            rw [if_pos ha]
            have hnew := (hsem.up (show m + 2 + 5 ≤ m + 3 + 5 by omega)).bin hE hw hsem2 (by omega) (x := -12) (by decide)
            rw [pqBin_12, if_pos (Int32.not_le.mp h5)] at hnew
            exact ⟨_, rfl, hS.of rfl rfl, hnew⟩
    · have hna := h2
      refine z_al iX11_not_58 rfl ?_
      refine z_co iX11_not_59 ?_
      refine z_cv1i (fr' := fr - 1) iX11_not_61 zmX11_isSign zupd_s (cm_isSign (ch := 61) (c := -61) hS rfl (by decide)) (by omega) (Nat.le_of_ble_eq_true rfl) (fun x M1 hq => ?_)
      obtain ⟨rfl, rfl⟩ := hq
      refine z_ib_ne iX11_not_64 (fun h6 => ?_) (fun h6 => ?_)
      · have hb := h6
        have hK := ((mk_sign (ch := 61) hJ.2.2.2.2.2.1 rfl (by decide)).mpr (pqTk_b hb (by decide)).2).2
        refine z_al iX11_not_69 rfl ?_
        refine z_gf iX11_not_70 zupd_s rfl ?_
        refine z_cl iX11_not_73 ?_
        refine z_lcmp iX11_not_76 ?_
        refine z_if_ne iX11_not_77 (fun h7 => ?_) (fun h7 => ?_)
        · refine z_co iX11_not_84 ?_
          refine z_is iX11_not_85 ?_
          refine z_al iX11_not_86 rfl ?_
          refine z_cv0v (fr' := fr - 1) iX11_not_87 zmX11_next zupd_s (cm_next (by omega) h19 ht hn16 hu hS (by rw [hb]; decide) (by rw [hb]; decide)) (by omega) (Nat.le_of_ble_eq_true rfl) (fun M1 hq => ?_)
          have hw2 := pqAdv_wf hE hb (by decide) (by decide) hw1
          have hS := hq
          obtain ⟨J, K, rfl, hJ⟩ := id hS
          refine z_al iX11_not_90 rfl ?_
          refine z_cv0i (fr' := fr - 1) iX11_not_91 zmX11_added zupd_s (Hs _ _ _ (by omega) hS hw2) (by omega) (Nat.le_of_ble_eq_true rfl) (fun x M1 hq => ?_)
          have xv := x
          obtain ⟨hS, hsem2⟩ := hq
          obtain ⟨J, K, rfl, hJ⟩ := id hS
          refine z_is iX11_not_94 ?_
          refine z_il iX11_not_95 rfl ?_
          refine z_if_eq iX11_not_96 (fun h8 => ?_) (fun h8 => ?_)
          · refine z_il iX11_not_107 rfl ?_
            refine z_il iX11_not_108 rfl ?_
            refine z_icmp_ne iX11_not_109 (fun h9 => ?_) (fun h9 => ?_)
            · refine z_co iX11_not_116 ?_
              refine z_iret iX11_not_117 rfl ?_
              have e : (pqNotS (tkT (zRow A t) n) nt one) s = pqCmp (tkT (zRow A t) n) one s := by unfold pqNotS; rw [if_neg h1]
              rw [e]
              unfold pqCmp pqCmp2
              rw [if_neg hna, if_pos hb]
              have hnew := (hsem.up (show m + 2 + 5 ≤ m + 3 + 5 by omega)).bin hE hw hsem2 (by omega) (x := -13) (by decide)
              rw [pqBin_13, if_neg h9] at hnew
              exact ⟨_, rfl, hS.of rfl rfl, hnew⟩
            · refine z_co iX11_not_112 ?_
              refine z_goto iX11_not_113 ?_
              refine z_iret iX11_not_117 rfl ?_
              have e : (pqNotS (tkT (zRow A t) n) nt one) s = pqCmp (tkT (zRow A t) n) one s := by unfold pqNotS; rw [if_neg h1]
              rw [e]
              unfold pqCmp pqCmp2
              rw [if_neg hna, if_pos hb]
              have hnew := (hsem.up (show m + 2 + 5 ≤ m + 3 + 5 by omega)).bin hE hw hsem2 (by omega) (x := -13) (by decide)
              rw [pqBin_13, if_pos h9] at hnew
              exact ⟨_, rfl, hS.of rfl rfl, hnew⟩
          · exact absurd rfl h8
        · rw [hK] at h7
          exact absurd h7 (by decide)
      · have hnb := h6
        refine z_il iX11_not_67 rfl ?_
        refine z_iret iX11_not_68 rfl ?_
        have e : (pqNotS (tkT (zRow A t) n) nt one) s = pqCmp (tkT (zRow A t) n) one s := by unfold pqNotS; rw [if_neg h1]
        rw [e]
        unfold pqCmp pqCmp2
        rw [if_neg hna, if_neg hnb]
        exact ⟨_, rfl, hS, hsem.up (by omega)⟩
  · refine z_al iX11_not_10 rfl ?_
    refine z_cv0i (fr' := fr - 1) iX11_not_11 zmX11_opens zupd_s (cm_opensS (by omega) h19 ht hn16 hu hS (by rw [h1]; decide) (by rw [h1]; decide) ho) (by omega) (Nat.le_of_ble_eq_true rfl) (fun x M1 hq => ?_)
    obtain ⟨rfl, hS⟩ := hq
    have hw2 := pqAdv_wf hE h1 (by decide) (by decide) hw
    obtain ⟨J, K, rfl, hJ⟩ := id hS
    refine z_if_ne iX11_not_14 (fun h10 => ?_) (fun h10 => ?_)
    · refine z_al iX11_not_19 rfl ?_
      refine z_cv0i (fr' := fr - 1) iX11_not_20 zmX11_not zupd_s (Hn _ _ _ (by omega) hS hw2) (by omega) (Nat.le_of_ble_eq_true rfl) (fun x M1 hq => ?_)
      obtain ⟨hS, hsem⟩ := hq
      obtain ⟨J, K, rfl, hJ⟩ := id hS
      refine z_is iX11_not_23 ?_
      refine z_al iX11_not_24 rfl ?_
      refine z_dup iX11_not_25 ?_
      refine z_gf iX11_not_26 zupd_s rfl ?_
      refine z_co iX11_not_29 ?_
      refine z_isub iX11_not_30 ?_
      refine z_pf2 iX11_not_31 (by decide) (Nat.le_of_ble_eq_true rfl) trivial ?_
      refine z_il iX11_not_34 rfl ?_
      refine z_if_ne iX11_not_35 (fun h11 => ?_) (fun h11 => ?_)
      · refine z_co iX11_not_42 ?_
        refine z_iret iX11_not_43 rfl ?_
        have e : (pqNotS (tkT (zRow A t) n) nt one) s = pqAdd (-8) (nt (pqAdv s)) := by unfold pqNotS; rw [if_pos h1]
        rw [e]
        have hfin := (hsem.nt hE hw).up (show m + 3 ≤ m + 3 + 5 by omega)
        rw [if_neg h11] at hfin
        exact ⟨_, rfl, ⟨zup J 6 (J 6 - 1), K, rfl, hJ.close⟩, hfin⟩
      · refine z_co iX11_not_38 ?_
        refine z_goto iX11_not_39 ?_
        refine z_iret iX11_not_43 rfl ?_
        have e : (pqNotS (tkT (zRow A t) n) nt one) s = pqAdd (-8) (nt (pqAdv s)) := by unfold pqNotS; rw [if_pos h1]
        rw [e]
        have hfin := (hsem.nt hE hw).up (show m + 3 ≤ m + 3 + 5 by omega)
        rw [if_pos h11] at hfin
        exact ⟨_, rfl, ⟨zup J 6 (J 6 - 1), K, rfl, hJ.close⟩, hfin⟩
    · exact absurd h10 (by decide)
theorem cm_lv {t n : Nat} {M0 : zM} {I : zSI} {A : zSA} {env : Nat → Int32} (hE : pqE (tkC (zRow A t) n) (tkT (zRow A t) n)) (h19 : M0 (41, 19) = some (.inl (0, 960, .inl (A 19)))) (ht : t < 6) (hn16 : n ≤ 160) (hu : ∀ j, j < n → 0 ≤ (zRow A t j).toInt ∧ (zRow A t j).toInt ≤ 255)  : ∀ (k : Nat) (od : Int32), k ≤ 5 → od.toInt + k = 5 → mC zX11_one M0 I A t n env (6 * k + 5) od (5 * k + 1) (pqLv (tkT (zRow A t) n) k).1 ∧ mC zX11_not M0 I A t n env (6 * k + 8) od (5 * k + 4) (pqLv (tkT (zRow A t) n) k).2
  | 0, od, _, ho => by
    have ho' : od = 5 := by rw [← Int32.toInt_inj]; simp only [Int32.reduceToInt]; omega
    have h1 := cm_one0 (M0 := M0) (I := I) (env := env) (od := od) hE h19 ht hn16 hu ho'
    exact ⟨h1, cm_not0 (m := 1) hE h19 ht hn16 hu (cm_added (m2 := 2) hE h19 ht hn16 hu (cm_term (m2 := 1) hE h19 ht hn16 hu h1 (by omega)) (by omega)) (by omega) ho'⟩
  | k + 1, od, hk, ho => by
    have ho' : ¬ od = 5 := fun q => by rw [q] at ho; simp only [Int32.reduceToInt] at ho; omega
    have e1 : (od + 1).toInt = od.toInt + 1 := zadd (by simp only [Int32.reduceToInt]; omega) (by simp only [Int32.reduceToInt]; omega)
    obtain ⟨i1, i2⟩ := cm_lv hE h19 ht hn16 hu k (od + 1) (by omega) (by omega)
    have i3 := cm_either (m2 := 5 * k + 5) hE h19 ht hn16 hu (cm_both (m2 := 5 * k + 4) hE h19 ht hn16 hu i2 (by omega)) (by omega)
    have h1 : mC zX11_one M0 I A t n env (6 * (k + 1) + 5) od (5 * (k + 1) + 1) (pqOneS (tkT (zRow A t) n) (pqLv (tkT (zRow A t) n) k).1 (pqEith (tkT (zRow A t) n) (pqLv (tkT (zRow A t) n) k).2)) := cm_oneS (F := 6 * k + 10) (m := 5 * k + 1) hE h19 ht hn16 hu (i1.up (by omega) (by omega)) i3 ho' (by omega)
    exact ⟨h1, (cm_notS (F := 6 * (k + 1) + 7) (m := 5 * k + 1) hE h19 ht hn16 hu ((cm_added (m2 := 5 * (k + 1) + 2) hE h19 ht hn16 hu (cm_term (m2 := 5 * (k + 1) + 1) hE h19 ht hn16 hu h1 (by omega)) (by omega)).up (by omega) (by omega)) (by omega) (i2.up (by omega) (by omega)) ho').up (by omega) (by omega)⟩
theorem cm_eith5 {t n : Nat} {M0 : zM} {I : zSI} {A : zSA} {env : Nat → Int32} (hE : pqE (tkC (zRow A t) n) (tkT (zRow A t) n)) (h19 : M0 (41, 19) = some (.inl (0, 960, .inl (A 19)))) (ht : t < 6) (hn16 : n ≤ 160) (hu : ∀ j, j < n → 0 ≤ (zRow A t j).toInt ∧ (zRow A t j).toInt ≤ 255) : mC zX11_either M0 I A t n env 40 0 31 (pqEith (tkT (zRow A t) n) (pqLv (tkT (zRow A t) n) 5).2) :=
  (cm_either (m2 := 30) hE h19 ht hn16 hu (cm_both (m2 := 29) hE h19 ht hn16 hu (cm_lv hE h19 ht hn16 hu 5 0 (by decide) (by decide)).2 (by omega)) (by omega)).up (by omega) (by omega)
