theorem tkWord_r (ds : List Nat) : tkWord ds = -1 ∨ tkWord ds = -2 ∨ tkWord ds = -3 ∨ tkWord ds = -4 ∨ tkWord ds = -5 ∨ tkWord ds = -6 ∨ tkWord ds = -22 ∨ tkWord ds = -23 ∨ tkWord ds = -24 ∨ tkWord ds = -15 ∨ tkWord ds = -14 ∨ tkWord ds = -8 ∨ tkWord ds = -21 := by
  unfold tkWord
  by_cases h0 : ds = [3, 21, 20, 19]
  · simp only [if_pos h0]; decide
  by_cases h1 : ds = [19, 16, 5, 5, 4]
  · simp only [if_neg h0, if_pos h1]; decide
  by_cases h2 : ds = [19, 20, 21, 6, 6]
  · simp only [if_neg h0, if_neg h1, if_pos h2]; decide
  by_cases h3 : ds = [12, 9, 6, 5]
  · simp only [if_neg h0, if_neg h1, if_neg h2, if_pos h3]; decide
  by_cases h4 : ds = [18, 5, 1, 4, 9, 14, 7]
  · simp only [if_neg h0, if_neg h1, if_neg h2, if_neg h3, if_pos h4]; decide
  by_cases h5 : ds = [14, 15, 13, 9, 14, 1, 12]
  · simp only [if_neg h0, if_neg h1, if_neg h2, if_neg h3, if_neg h4, if_pos h5]; decide
  by_cases h6 : ds = [23, 15, 18, 14]
  · simp only [if_neg h0, if_neg h1, if_neg h2, if_neg h3, if_neg h4, if_neg h5, if_pos h6]; decide
  by_cases h7 : ds = [2, 18, 15, 11, 5, 14]
  · simp only [if_neg h0, if_neg h1, if_neg h2, if_neg h3, if_neg h4, if_neg h5, if_neg h6, if_pos h7]; decide
  by_cases h8 : ds = [3, 8, 5, 3, 11]
  · simp only [if_neg h0, if_neg h1, if_neg h2, if_neg h3, if_neg h4, if_neg h5, if_neg h6, if_neg h7, if_pos h8]; decide
  by_cases h9 : ds = [15, 18]
  · simp only [if_neg h0, if_neg h1, if_neg h2, if_neg h3, if_neg h4, if_neg h5, if_neg h6, if_neg h7, if_neg h8, if_pos h9]; decide
  by_cases h10 : ds = [1, 14, 4]
  · simp only [if_neg h0, if_neg h1, if_neg h2, if_neg h3, if_neg h4, if_neg h5, if_neg h6, if_neg h7, if_neg h8, if_neg h9, if_pos h10]; decide
  by_cases h11 : ds = [14, 15, 20]
  · simp only [if_neg h0, if_neg h1, if_neg h2, if_neg h3, if_neg h4, if_neg h5, if_neg h6, if_neg h7, if_neg h8, if_neg h9, if_neg h10, if_pos h11]; decide
  simp only [if_neg h0, if_neg h1, if_neg h2, if_neg h3, if_neg h4, if_neg h5, if_neg h6, if_neg h7, if_neg h8, if_neg h9, if_neg h10, if_neg h11]; decide
theorem i64_ofNat {a b : Nat} (ha : a < 2 ^ 62) (hb : b < 2 ^ 62) : Int64.ofNat a = Int64.ofNat b ↔ a = b := by
  constructor
  · intro h
    have h1 := congrArg Int64.toInt h
    rw [Int64.toInt_ofNat_of_lt (by omega), Int64.toInt_ofNat_of_lt (by omega)] at h1
    omega
  · intro h; rw [h]
theorem mk_word {T j3 : Int32} {K : Int64} (h : mkTok T j3 K) {D : List Nat} {W : Nat} {c : Int32} (a : ∀ ds, tkWord ds = c ↔ ds = D) (b : tkVal D = W) (b2 : tkDec 7 W = D) (b3 : W < 27 ^ 7) (hl : D.length ≤ 7) (hc : c < 0 ∧ c ≠ -20 ∧ c ≠ -21 ∧ ¬ (c = -40 ∨ c = -41 ∨ c = -59 ∨ c = -43 ∨ c = -45 ∨ c = -42 ∨ c = -60 ∨ c = -61)) {W' : Int64} (hW : W' = Int64.ofNat W) : (j3 = 1 ∧ K = W') ↔ T = c := by
  subst hW
  have h27 : (27 : Nat) ^ 7 < 2 ^ 62 := by decide
  rcases h with ⟨h1, h2⟩ | ⟨h1, ds, h2, h3⟩ | ⟨h1, h2, h3⟩ | ⟨h1, h2, h3⟩ | ⟨h1, h2⟩
  · subst h1; subst h2
    exact ⟨fun q => absurd q.1 (by decide), fun q => absurd q.symm hc.2.1⟩
  · subst h1; subst h2
    rw [a]
    rcases h3 with ⟨g1, g2, g3⟩ | ⟨g1, g2⟩
    · constructor
      · intro q
        rw [g3] at q
        have q2 := (i64_ofNat (by omega) (by omega)).mp q.2
        rw [q2, b2] at g1
        exact g1.symm
      · intro q
        refine ⟨rfl, ?_⟩
        rw [g3, q, b]
    · constructor
      · intro q
        have q2 := q.2
        rw [g2] at q2
        have q3 := congrArg Int64.toInt q2
        rw [Int64.toInt_ofNat_of_lt (by omega)] at q3
        have q4 : (-1 : Int64).toInt = -1 := rfl
        omega
      · intro q
        rw [q] at g1
        omega
  · subst h1
    refine ⟨fun q => absurd q.1 (by decide), fun q => ?_⟩
    subst q
    have := hc.1
    simp only [zi_le, zi_lt, Int32.reduceToInt] at this h2
    omega
  · subst h1
    exact ⟨fun q => absurd q.1 (by decide), fun q => absurd (by rw [← q]; exact h3) hc.2.2.2⟩
  · subst h1; subst h2
    exact ⟨fun q => absurd q.1 (by decide), fun q => absurd q.symm hc.2.2.1⟩
theorem mk_sign {T j3 : Int32} {K : Int64} (h : mkTok T j3 K) {ch c : Int32} (hc : c = -ch) (hd : c = -40 ∨ c = -41 ∨ c = -59 ∨ c = -43 ∨ c = -45 ∨ c = -42 ∨ c = -60 ∨ c = -61) : (j3 = 3 ∧ K = ch.toInt64) ↔ T = c := by
  rcases h with ⟨h1, h2⟩ | ⟨h1, ds, h2, h3⟩ | ⟨h1, h2, h3⟩ | ⟨h1, h2, h3⟩ | ⟨h1, h2⟩
  · subst h1; subst h2
    refine ⟨fun q => absurd q.1 (by decide), fun q => ?_⟩
    rw [← q] at hd
    exact absurd hd (by decide)
  · subst h1; subst h2
    refine ⟨fun q => absurd q.1 (by decide), fun q => ?_⟩
    rw [← q] at hd
    rcases tkWord_r ds with z | z | z | z | z | z | z | z | z | z | z | z | z <;> rw [z] at hd <;> exact absurd hd (by decide)
  · subst h1
    refine ⟨fun q => absurd q.1 (by decide), fun q => ?_⟩
    subst q
    simp only [zi_le, Int32.reduceToInt] at h2
    rcases hd with z | z | z | z | z | z | z | z <;> rw [z] at h2 <;> simp only [Int32.reduceToInt] at h2 <;> omega
  · subst h1
    constructor
    · intro q
      have q2 := q.2
      rw [h2] at q2
      have q3 := congrArg Int64.toInt32 q2
      rw [Int32.toInt32_toInt64, Int32.toInt32_toInt64] at q3
      rw [hc, ← q3]
      grind
    · intro q
      refine ⟨rfl, ?_⟩
      rw [h2, q, hc]
      congr 1
      grind
  · subst h1; subst h2
    refine ⟨fun q => absurd q.1 (by decide), fun q => ?_⟩
    rw [← q] at hd
    exact absurd hd (by decide)
theorem mk_num {T j3 : Int32} {K : Int64} (h : mkTok T j3 K) : (j3 = 2 ↔ 0 ≤ T) ∧ (j3 = 2 → K.toInt32 = T) ∧ ((-6 ≤ T ∧ ¬ 0 ≤ T) → j3 = 1) ∧ (j3 = 0 ↔ T = -20) := by
  rcases h with ⟨h1, h2⟩ | ⟨h1, ds, h2, h3⟩ | ⟨h1, h2, h3⟩ | ⟨h1, h2, h3⟩ | ⟨h1, h2⟩
  · subst h1; subst h2; exact ⟨by decide, fun q => absurd q (by decide), fun q => absurd q.1 (by decide), by decide⟩
  · subst h1; subst h2
    rcases tkWord_r ds with z | z | z | z | z | z | z | z | z | z | z | z | z <;> rw [z] <;> refine ⟨by decide, fun q => absurd q (by decide), fun _ => rfl, by decide⟩
  · subst h1
    refine ⟨⟨fun _ => h2, fun _ => rfl⟩, fun _ => h3, fun q => absurd h2 q.2, ⟨fun q => absurd q (by decide), fun q => ?_⟩⟩
    rw [q] at h2
    exact absurd h2 (by decide)
  · subst h1
    rcases h3 with z | z | z | z | z | z | z | z <;> subst z <;> exact ⟨by decide, fun q => absurd q (by decide), fun q => absurd q.1 (by decide), by decide⟩
  · subst h1; subst h2
    exact ⟨by decide, fun q => absurd q (by decide), fun q => absurd q.1 (by decide), by decide⟩
def mrJ (A : zSA) (t n : Nat) (env : Nat → Int32) (od : Int32) (s : pqS) (J : zSI) (K : Int64) : Prop :=
  J 1 = nI (160 * t) ∧ J 2 = nI n ∧ J 6 = od ∧ J 7 = (if s.2.1 = true then 1 else 0) ∧ (s.2.1 = true → J 8 = nI (tkP (zRow A t) n s.1)) ∧ mkTok (tkT (zRow A t) n s.1) (J 3) K ∧ J 4 = nI (tkP (zRow A t) n s.1) ∧ (tkT (zRow A t) n s.1 ≠ -21 → J 5 = nI (if tkP (zRow A t) n s.1 < n then tkEnd (zRow A t) n (tkP (zRow A t) n s.1) else n)) ∧ ∀ i, i < 6 → J (9 + i) = env i
/-- the model while it reads -/
def mrS (M0 : zM) (I : zSI) (A : zSA) (t n : Nat) (env : Nat → Int32) (od : Int32) (s : pqS) (M : zM) : Prop := ∃ J K, M = zupd M0 (40, 0) (.inr (11, mObj I J K)) ∧ mrJ A t n env od s J K
theorem mrS.of {M0 : zM} {I : zSI} {A : zSA} {t n : Nat} {env : Nat → Int32} {od : Int32} {s s' : pqS} {M : zM} (h : mrS M0 I A t n env od s M) (h1 : s'.1 = s.1) (h2 : s'.2.1 = s.2.1) : mrS M0 I A t n env od s' M := by
  obtain ⟨J, K, e, hJ⟩ := h
  refine ⟨J, K, e, ?_⟩
  unfold mrJ at hJ ⊢
  rw [h1, h2]
  exact hJ
/-- a token of the reading -/
theorem mrJ.tk {A : zSA} {t n : Nat} {env : Nat → Int32} {od : Int32} {s : pqS} {J : zSI} {K : Int64} (h : mrJ A t n env od s J K) : J 7 = 0 ↔ s.2.1 = false := by
  rw [h.2.2.2.1]
  by_cases q : s.2.1 = true
  · rw [if_pos q, q]; decide
  · rw [if_neg q]
    exact ⟨fun _ => Bool.eq_false_iff.mpr q, fun _ => rfl⟩
theorem pqTk_iff {T : Nat → Int32} {s : pqS} {c : Int32} (hc : c ≠ -21) : pqTk T s = c ↔ s.2.1 = false ∧ T s.1 = c := by
  constructor
  · exact fun h => pqTk_b h hc
  · intro h
    unfold pqTk
    rw [if_neg (by rw [h.1]; decide)]
    exact h.2
set_option maxRecDepth 20000 in
set_option maxHeartbeats 4000000 in
theorem cm_fail {fr t n : Nat} {M0 M : zM} {I : zSI} {A : zSA} {env : Nat → Int32} {od : Int32} {s : pqS} (hS : mrS M0 I A t n env od s M) : zCv zX11_fail fr 0 0 [zr (40, 0)] M (fun M' => mrS M0 I A t n env od (pqBad s) M') := by
  obtain ⟨J, K, rfl, hJ⟩ := id hS
  refine z_enter (L := [some (zr (40, 0))]) rfl (by decide +kernel) (Nat.le_of_ble_eq_true rfl) ?_
  refine z_al iX11_fail_0 rfl ?_
  refine z_gf iX11_fail_1 zupd_s rfl ?_
  refine z_if_ne iX11_fail_4 (fun h1 => ?_) (fun h1 => ?_)
  · refine z_vret iX11_fail_20 rfl ?_
    refine ⟨rfl, J, K, rfl, ?_⟩
    have hb : s.2.1 = true := by
      cases z : s.2.1 with
      | true => rfl
      | false => exact absurd (hJ.tk.mpr z) h1
    have hJ2 := hJ
    unfold mrJ at hJ2 ⊢
    rw [hb] at hJ2
    exact hJ2
  · refine z_al iX11_fail_7 rfl ?_
    refine z_co iX11_fail_8 ?_
    refine z_pf2 iX11_fail_9 (by decide) (Nat.le_of_ble_eq_true rfl) (Or.inr rfl) ?_
    refine z_al iX11_fail_12 rfl ?_
    refine z_al iX11_fail_13 rfl ?_
    refine z_gf iX11_fail_14 zupd_s rfl ?_
    refine z_pf2 iX11_fail_17 (by decide) (Nat.le_of_ble_eq_true rfl) trivial ?_
    refine z_vret iX11_fail_20 rfl ?_
    refine ⟨rfl, zup (zup J 7 1) 8 (J 4), K, rfl, ?_⟩
    obtain ⟨a1, a2, a3, a4, a5, a6, a7, a8, a9⟩ := hJ
    exact ⟨a1, a2, a3, rfl, fun _ => a7, a6, a7, a8, fun i hi => (zup_n (by omega)).trans ((zup_n (by omega)).trans (a9 i hi))⟩
theorem lg_cmp_self {x : Int64} : lg_cmp x x = 0 := by
  unfold lg_cmp
  rw [if_neg (fun q => absurd q (Int64.lt_irrefl)), if_pos rfl]
theorem lg_cmp_0 {x y : Int64} (h : lg_cmp x y = 0) : x = y := by
  unfold lg_cmp at h
  split at h
  · exact absurd h (by decide)
  · split at h
    · assumption
    · exact absurd h (by decide)
set_option maxRecDepth 20000 in
set_option maxHeartbeats 4000000 in
theorem cm_isWord {fr t n : Nat} {M0 M : zM} {I : zSI} {A : zSA} {env : Nat → Int32} {od : Int32} {s : pqS} (hS : mrS M0 I A t n env od s M) {W : Int64} {c : Int32} (hW : ∀ (T j3 : Int32) (K : Int64), mkTok T j3 K → ((j3 = 1 ∧ K = W) ↔ T = c)) (hc : c ≠ -21) : zCi zX11_isWord fr 0 0 [zr (40, 0), zl W] M (fun x M' => M' = M ∧ x = zbo (pqTk (tkT (zRow A t) n) s = c)) := by
  obtain ⟨J, K, rfl, hJ⟩ := id hS
  refine z_enter (L := [some (zr (40, 0)), some (zl W), none]) rfl (by decide +kernel) (Nat.le_of_ble_eq_true rfl) ?_
  refine z_al iX11_isWord_0 rfl ?_
  refine z_gf iX11_isWord_1 zupd_s rfl ?_
  refine z_if_ne iX11_isWord_4 (fun h1 => ?_) (fun h1 => ?_)
  · refine z_co iX11_isWord_28 ?_
    refine z_zret iX11_isWord_29 rfl rfl ?_
    refine ⟨_, rfl, rfl, ?_⟩
    have hw := hW _ _ _ hJ.2.2.2.2.2.1
    have htk := (hJ.tk)
    by_cases g : pqTk (tkT (zRow A t) n) s = c
    · obtain ⟨g1, g2⟩ := (pqTk_iff hc).mp g
      have g3 := hw.mpr g2
      first | exact (zbo_1 g).symm | exact absurd (htk.mpr g1) h1 | exact absurd g3.1 h2 | (rw [g3.2] at h3; exact absurd lg_cmp_self h3)
    · first | exact (zbo_0 g).symm | (exfalso; exact g ((pqTk_iff hc).mpr ⟨htk.mp h1, hw.mp ⟨h2, lg_cmp_0 h3⟩⟩))
  · refine z_al iX11_isWord_7 rfl ?_
    refine z_gf iX11_isWord_8 zupd_s rfl ?_
    refine z_co iX11_isWord_11 ?_
    refine z_icmp_ne iX11_isWord_12 (fun h2 => ?_) (fun h2 => ?_)
    · refine z_co iX11_isWord_28 ?_
      refine z_zret iX11_isWord_29 rfl rfl ?_
      refine ⟨_, rfl, rfl, ?_⟩
      have hw := hW _ _ _ hJ.2.2.2.2.2.1
      have htk := (hJ.tk)
      by_cases g : pqTk (tkT (zRow A t) n) s = c
      · obtain ⟨g1, g2⟩ := (pqTk_iff hc).mp g
        have g3 := hw.mpr g2
        first | exact (zbo_1 g).symm | exact absurd (htk.mpr g1) h1 | exact absurd g3.1 h2 | (rw [g3.2] at h3; exact absurd lg_cmp_self h3)
      · first | exact (zbo_0 g).symm | (exfalso; exact g ((pqTk_iff hc).mpr ⟨htk.mp h1, hw.mp ⟨h2, lg_cmp_0 h3⟩⟩))
    · refine z_al iX11_isWord_15 rfl ?_
      refine z_gf iX11_isWord_16 zupd_s rfl ?_
      refine z_ll iX11_isWord_19 rfl ?_
      refine z_lcmp iX11_isWord_20 ?_
      refine z_if_ne iX11_isWord_21 (fun h3 => ?_) (fun h3 => ?_)
      · refine z_co iX11_isWord_28 ?_
        refine z_zret iX11_isWord_29 rfl rfl ?_
        refine ⟨_, rfl, rfl, ?_⟩
        have hw := hW _ _ _ hJ.2.2.2.2.2.1
        have htk := (hJ.tk)
        by_cases g : pqTk (tkT (zRow A t) n) s = c
        · obtain ⟨g1, g2⟩ := (pqTk_iff hc).mp g
          have g3 := hw.mpr g2
          first | exact (zbo_1 g).symm | exact absurd (htk.mpr g1) h1 | exact absurd g3.1 h2 | (rw [g3.2] at h3; exact absurd lg_cmp_self h3)
        · first | exact (zbo_0 g).symm | (exfalso; exact g ((pqTk_iff hc).mpr ⟨htk.mp h1, hw.mp ⟨h2, lg_cmp_0 h3⟩⟩))
      · refine z_co iX11_isWord_24 ?_
        refine z_goto iX11_isWord_25 ?_
        refine z_zret iX11_isWord_29 rfl rfl ?_
        refine ⟨_, rfl, rfl, ?_⟩
        have hw := hW _ _ _ hJ.2.2.2.2.2.1
        have htk := (hJ.tk)
        by_cases g : pqTk (tkT (zRow A t) n) s = c
        · obtain ⟨g1, g2⟩ := (pqTk_iff hc).mp g
          have g3 := hw.mpr g2
          first | exact (zbo_1 g).symm | exact absurd (htk.mpr g1) h1 | exact absurd g3.1 h2 | (rw [g3.2] at h3; exact absurd lg_cmp_self h3)
        · first | exact (zbo_0 g).symm | (exfalso; exact g ((pqTk_iff hc).mpr ⟨htk.mp h1, hw.mp ⟨h2, lg_cmp_0 h3⟩⟩))
set_option maxRecDepth 20000 in
set_option maxHeartbeats 4000000 in
theorem cm_isSign {fr t n : Nat} {M0 M : zM} {I : zSI} {A : zSA} {env : Nat → Int32} {od : Int32} {s : pqS} (hS : mrS M0 I A t n env od s M) {ch c : Int32} (hcc : c = -ch) (hd : c = -40 ∨ c = -41 ∨ c = -59 ∨ c = -43 ∨ c = -45 ∨ c = -42 ∨ c = -60 ∨ c = -61) : zCi zX11_isSign fr 0 0 [zr (40, 0), zi ch] M (fun x M' => M' = M ∧ x = zbo (pqTk (tkT (zRow A t) n) s = c)) := by
  obtain ⟨J, K, rfl, hJ⟩ := id hS
  have hc : c ≠ -21 := fun q => by rw [q] at hd; exact absurd hd (by decide)
  refine z_enter (L := [some (zr (40, 0)), some (zi ch)]) rfl (by decide +kernel) (Nat.le_of_ble_eq_true rfl) ?_
  refine z_al iX11_isSign_0 rfl ?_
  refine z_gf iX11_isSign_1 zupd_s rfl ?_
  refine z_if_ne iX11_isSign_4 (fun h1 => ?_) (fun h1 => ?_)
  · refine z_co iX11_isSign_29 ?_
    refine z_zret iX11_isSign_30 rfl rfl ?_
    refine ⟨_, rfl, rfl, ?_⟩
    have hw := mk_sign hJ.2.2.2.2.2.1 hcc hd
    have htk := (hJ.tk)
    by_cases g : pqTk (tkT (zRow A t) n) s = c
    · obtain ⟨g1, g2⟩ := (pqTk_iff hc).mp g
      have g3 := hw.mpr g2
      first | exact (zbo_1 g).symm | exact absurd (htk.mpr g1) h1 | exact absurd g3.1 h2 | (rw [g3.2] at h3; exact absurd lg_cmp_self h3)
    · first | exact (zbo_0 g).symm | (exfalso; exact g ((pqTk_iff hc).mpr ⟨htk.mp h1, hw.mp ⟨h2, lg_cmp_0 h3⟩⟩))
  · refine z_al iX11_isSign_7 rfl ?_
    refine z_gf iX11_isSign_8 zupd_s rfl ?_
    refine z_co iX11_isSign_11 ?_
    refine z_icmp_ne iX11_isSign_12 (fun h2 => ?_) (fun h2 => ?_)
    · refine z_co iX11_isSign_29 ?_
      refine z_zret iX11_isSign_30 rfl rfl ?_
      refine ⟨_, rfl, rfl, ?_⟩
      have hw := mk_sign hJ.2.2.2.2.2.1 hcc hd
      have htk := (hJ.tk)
      by_cases g : pqTk (tkT (zRow A t) n) s = c
      · obtain ⟨g1, g2⟩ := (pqTk_iff hc).mp g
        have g3 := hw.mpr g2
        first | exact (zbo_1 g).symm | exact absurd (htk.mpr g1) h1 | exact absurd g3.1 h2 | (rw [g3.2] at h3; exact absurd lg_cmp_self h3)
      · first | exact (zbo_0 g).symm | (exfalso; exact g ((pqTk_iff hc).mpr ⟨htk.mp h1, hw.mp ⟨h2, lg_cmp_0 h3⟩⟩))
    · refine z_al iX11_isSign_15 rfl ?_
      refine z_gf iX11_isSign_16 zupd_s rfl ?_
      refine z_il iX11_isSign_19 rfl ?_
      refine z_i2l iX11_isSign_20 ?_
      refine z_lcmp iX11_isSign_21 ?_
      refine z_if_ne iX11_isSign_22 (fun h3 => ?_) (fun h3 => ?_)
      · refine z_co iX11_isSign_29 ?_
        refine z_zret iX11_isSign_30 rfl rfl ?_
        refine ⟨_, rfl, rfl, ?_⟩
        have hw := mk_sign hJ.2.2.2.2.2.1 hcc hd
        have htk := (hJ.tk)
        by_cases g : pqTk (tkT (zRow A t) n) s = c
        · obtain ⟨g1, g2⟩ := (pqTk_iff hc).mp g
          have g3 := hw.mpr g2
          first | exact (zbo_1 g).symm | exact absurd (htk.mpr g1) h1 | exact absurd g3.1 h2 | (rw [g3.2] at h3; exact absurd lg_cmp_self h3)
        · first | exact (zbo_0 g).symm | (exfalso; exact g ((pqTk_iff hc).mpr ⟨htk.mp h1, hw.mp ⟨h2, lg_cmp_0 h3⟩⟩))
      · refine z_co iX11_isSign_25 ?_
        refine z_goto iX11_isSign_26 ?_
        refine z_zret iX11_isSign_30 rfl rfl ?_
        refine ⟨_, rfl, rfl, ?_⟩
        have hw := mk_sign hJ.2.2.2.2.2.1 hcc hd
        have htk := (hJ.tk)
        by_cases g : pqTk (tkT (zRow A t) n) s = c
        · obtain ⟨g1, g2⟩ := (pqTk_iff hc).mp g
          have g3 := hw.mpr g2
          first | exact (zbo_1 g).symm | exact absurd (htk.mpr g1) h1 | exact absurd g3.1 h2 | (rw [g3.2] at h3; exact absurd lg_cmp_self h3)
        · first | exact (zbo_0 g).symm | (exfalso; exact g ((pqTk_iff hc).mpr ⟨htk.mp h1, hw.mp ⟨h2, lg_cmp_0 h3⟩⟩))
set_option maxRecDepth 20000 in
set_option maxHeartbeats 4000000 in
theorem cm_next {fr t n : Nat} {M0 M : zM} {I : zSI} {A : zSA} {env : Nat → Int32} {od : Int32} {s : pqS} (hf : 3 ≤ fr) (h19 : M0 (41, 19) = some (.inl (0, 960, .inl (A 19)))) (ht : t < 6) (hn16 : n ≤ 160) (hu : ∀ j, j < n → 0 ≤ (zRow A t j).toInt ∧ (zRow A t j).toInt ≤ 255) (hS : mrS M0 I A t n env od s M) (w1 : pqTk (tkT (zRow A t) n) s ≠ -21) (w2 : pqTk (tkT (zRow A t) n) s ≠ -20) : zCv zX11_next fr 0 0 [zr (40, 0)] M (fun M' => mrS M0 I A t n env od (pqAdv s) M') := by
  obtain ⟨J, K, rfl, hJ⟩ := id hS
  obtain ⟨b1, b2⟩ := pqTk_b (T := tkT (zRow A t) n) (s := s) rfl w1
  obtain ⟨a1, a2, a3, a4, a5, a6, a7, a8, a9⟩ := hJ
  have hp : tkP (zRow A t) n s.1 < n := Decidable.byContradiction fun q => w2 (b2 ▸ (if_neg q : tkT (zRow A t) n s.1 = -20))
  have b3 := a8 (by rw [b2]; exact w1)
  rw [if_pos hp] at b3
  refine (c11_next (by omega) h19 ht hn16 hu (tkEnd_le hp) a1 a2 b3).mono (fun M' ⟨J', K', e, h1, h2⟩ => ⟨J', K', e, ?_⟩)
  have e1 : tkSkip (zRow A t) n (tkEnd (zRow A t) n (tkP (zRow A t) n s.1)) = tkP (zRow A t) n (s.1 + 1) := (tkP_s hp).symm
  unfold mkAt at h1
  rw [e1] at h1
  obtain ⟨h3, h4, h5⟩ := h1
  refine ⟨(h2 1 (by decide) (by decide) (by decide)).trans a1, (h2 2 (by decide) (by decide) (by decide)).trans a2, (h2 6 (by decide) (by decide) (by decide)).trans a3, (h2 7 (by decide) (by decide) (by decide)).trans a4, fun q => ?_, h3, h4, h5, fun i hi => (h2 _ (by omega) (by omega) (by omega)).trans (a9 i hi)⟩
  have q : s.2.1 = true := q
  rw [b1] at q
  exact absurd q (by decide)
