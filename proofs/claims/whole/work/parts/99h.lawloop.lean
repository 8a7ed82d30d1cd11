/-- the thirty pairs -/
def zPairs (Inv : zM → Prop) : Prop :=
  (∀ (a0 : Int32) (a1 : Int32) (a2 : Int32) (a3 : Int32) (a4 : Int32), zPI Inv zX10_edge zX11_edge 2 21 [zi a0, zi a1, zi a2, zi a3, zi a4]) ∧
  (∀ (a0 : Int32) (a1 : Int32), zPI Inv zX10_edgeTold zX11_edgeTold 0 0 [zi a0, zi a1]) ∧
  (∀ (a0 : Int32) (a1 : Int32), zPJ Inv zX10_used zX11_used 0 0 [zi a0, zi a1]) ∧
  (∀ (a0 : Int32) (a1 : Int32) (a2 : Int32), zPI Inv zX10_wear zX11_wear 0 0 [zi a0, zi a1, zi a2]) ∧
  (∀ (a0 : Int32), zPI Inv zX10_turn zX11_turn 0 0 [zi a0]) ∧
  (∀ (a0 : Int32) (a1 : Int32), zPI Inv zX10_grind zX11_grind 0 0 [zi a0, zi a1]) ∧
  (∀ (a0 : Int32) (a1 : Int32), zPI Inv zX10_trail zX11_trail 0 0 [zi a0, zi a1]) ∧
  (∀ (a0 : Int32) (a1 : Int32) (a2 : Int32) (a3 : Int32), zPI Inv zX10_tool zX11_tool 1 8 [zi a0, zi a1, zi a2, zi a3]) ∧
  (∀ (a0 : Int32) (a1 : Int32), zPI Inv zX10_toolTold zX11_toolTold 0 0 [zi a0, zi a1]) ∧
  (∀ (a0 : Int32) (a1 : Int32), zPI Inv zX10_setter zX11_setter 0 0 [zi a0, zi a1]) ∧
  (∀ (a0 : Int32), zPI Inv zX10_calibrate zX11_calibrate 0 0 [zi a0]) ∧
  (∀ (a0 : Int32), zPI Inv zX10_measure zX11_measure 0 0 [zi a0]) ∧
  (∀ (a0 : Int32) (a1 : Int64), zPI Inv zX10_feed zX11_feed 0 0 [zi a0, zl a1]) ∧
  (zPI Inv zX10_text zX11_text 0 0 []) ∧
  (∀ (a0 : Int32), zPI Inv zX10_force zX11_force 0 0 [zi a0]) ∧
  (∀ (a0 : Int32) (a1 : Int32), zPJ Inv zX10_says zX11_says 0 0 [zi a0, zi a1]) ∧
  (∀ (a0 : Int32) (a1 : Int32), zPI Inv zX10_machine zX11_machine 2 19 [zi a0, zi a1]) ∧
  (∀ (a0 : Int32) (a1 : Int32) (a2 : Int32), zPI Inv zX10_put zX11_put 0 0 [zi a0, zi a1, zi a2]) ∧
  (∀ (a0 : Int32), zPI Inv zX10_take zX11_take 0 0 [zi a0]) ∧
  (∀ (a0 : Int32) (a1 : Int32), zPI Inv zX10_at zX11_at 0 0 [zi a0, zi a1]) ∧
  (∀ (a0 : Int32) (a1 : Int32), zPI Inv zX10_room zX11_room 0 0 [zi a0, zi a1]) ∧
  (∀ (a0 : Int32) (a1 : Int32) (a2 : Int32) (a3 : Int32), zPI Inv zX10_cut zX11_cut 0 0 [zi a0, zi a1, zi a2, zi a3]) ∧
  (∀ (a0 : Int32), zPI Inv zX10_job zX11_job 0 0 [zi a0]) ∧
  (∀ (a0 : Int64) (a1 : Int32), zPI Inv zX10_changes zX11_changes 0 0 [zl a0, zi a1]) ∧
  (∀ (a0 : Int32) (a1 : Int32), zPI Inv zX10_order zX11_order 0 0 [zi a0, zi a1]) ∧
  (∀ (a0 : Int32), zPI Inv zX10_count zX11_count 0 0 [zi a0]) ∧
  (∀ (a0 : Int32) (a1 : Int32) (a2 : Int32), zPI Inv zX10_sheet zX11_sheet 0 0 [zi a0, zi a1, zi a2]) ∧
  (∀ (a0 : Int32) (a1 : Int32) (a2 : Int32), zPI Inv zX10_cell zX11_cell 0 0 [zi a0, zi a1, zi a2]) ∧
  (∀ (a0 : Int32) (a1 : Int32) (a2 : Int32) (a3 : Int32) (a4 : Int32), zPI Inv zX10_cuts zX11_cuts 0 0 [zi a0, zi a1, zi a2, zi a3, zi a4]) ∧
  (∀ (a0 : Int32) (a1 : Int32), zPI Inv zX10_taken zX11_taken 0 0 [zi a0, zi a1])
set_option maxRecDepth 20000 in
set_option maxHeartbeats 4000000 in
theorem law_loop {Inv : zM → Prop} {fr L : Nat} {xs : Nat → Int32} (hf : 201 ≤ fr) (hL : L ≤ 3072) (hP : zPairs Inv) : ∀ (n t : Nat) (M : zM), t + n = L / 6 → zLL L xs M → Inv M → zV zL_law fr (2 * n) (21 * n) 18 (zL [some (zr (1, 0)), some (zr (2, 0)), some (zr (40, 0)), some (zi (nI (6 * t)))]) [] M (fun r _ => r = some (zi 1)) := by
  obtain ⟨p0, p1, p2, p3, p4, p5, p6, p7, p8, p9, p10, p11, p12, p13, p14, p15, p16, p17, p18, p19, p20, p21, p22, p23, p24, p25, p26, p27, p28, p29⟩ := hP
  intro n
  induction n with
  | zero =>
    intro t M hn hscr hI
    have hsub : (nI L - 6).toInt = (L : Int) - 6 := pk_sub_toInt (b := 6) (by omega) (by decide)
    have h6 := nI_toInt (n := 6 * t) (by omega)
    refine z_il iL_law_18 rfl ?_
    refine z_al iL_law_19 rfl ?_
    refine z_alen iL_law_20 hscr (by decide) ?_
    refine z_co iL_law_21 ?_
    refine z_isub iL_law_23 ?_
    refine z_icmp_gt iL_law_24 (fun h1 => ?_) (fun h1 => ?_)
    · refine z_co iL_law_1276 ?_
      refine z_zret iL_law_1277 rfl rfl ?_
      rfl
    · exact absurd (show nI L - 6 < nI (6 * t) from by rw [zi_lt]; omega) h1
  | succ n ih =>
    intro t M hn hscr hI
    have ht : 6 * t + 6 ≤ L := by omega
    have kk : ∀ M2 : zM, Inv M2 → zLL L xs M2 → zV zL_law fr (2 * n) (21 * n) 1270 (zL [some (zr (1, 0)), some (zr (2, 0)), some (zr (40, 0)), some (zi (nI (6 * t)))]) [] M2 (fun r _ => r = some (zi 1)) := by
      intro M2 hI2 hscr2
      refine z_in iL_law_1270 rfl ?_
      refine z_goto iL_law_1273 ?_
      refine z_loc [some (zr (1, 0)), some (zr (2, 0)), some (zr (40, 0)), some (zi (nI (6 * (t + 1))))] ⟨rfl, rfl, rfl, ?_, trivial⟩ (ih (t + 1) M2 (by omega) hscr2 hI2)
      show some (zi (nI (6 * t) + 6)) = _
      rw [show (6 : Int32) = nI 6 from rfl, nI_add]
      rfl
    have hsub : (nI L - 6).toInt = (L : Int) - 6 := pk_sub_toInt (b := 6) (by omega) (by decide)
    have h6 := nI_toInt (n := 6 * t) (by omega)
    refine z_il iL_law_18 rfl ?_
    refine z_al iL_law_19 rfl ?_
    refine z_alen iL_law_20 hscr (by decide) ?_
    refine z_co iL_law_21 ?_
    refine z_isub iL_law_23 ?_
    refine z_icmp_gt iL_law_24 (fun h1 => ?_) (fun h1 => ?_)
    · exact absurd (zi_lt.mp (show nI L - 6 < nI (6 * t) from h1)) (by omega)
    · refine z_al iL_law_27 rfl ?_
      refine z_il iL_law_28 rfl ?_
      refine z_iald iL_law_29 hscr (nI_toInt (by omega)) (by omega) ?_
      refine z_co iL_law_30 ?_
      refine z_iand iL_law_32 ?_
      refine z_sw iL_law_33 ⟨fun h2 => ?_, fun h2 => ?_, fun h2 => ?_, fun h2 => ?_, fun h2 => ?_, fun h2 => ?_, fun h2 => ?_, fun h2 => ?_, fun h2 => ?_, fun h2 => ?_, fun h2 => ?_, fun h2 => ?_, fun h2 => ?_, fun h2 => ?_, fun h2 => ?_, fun h2 => ?_, fun h2 => ?_, fun h2 => ?_, fun h2 => ?_, fun h2 => ?_, fun h2 => ?_, fun h2 => ?_, fun h2 => ?_, fun h2 => ?_, fun h2 => ?_, fun h2 => ?_, fun h2 => ?_, fun h2 => ?_, fun h2 => ?_, fun h2 => ?_, trivial⟩ (fun h2 => ?_)
      · refine zV.wide (cm := 2 + 2 * n) (sm := 21 + 21 * n) (by omega) (by omega) (law_edge hf hL ht hscr hI p0 kk)
      · refine zV.wide (cm := 2 * n) (sm := 21 * n) (by omega) (by omega) (law_edgeTold hf hL ht hscr hI p1 kk)
      · refine zV.wide (cm := 2 * n) (sm := 21 * n) (by omega) (by omega) (law_used hf hL ht hscr hI p2 kk)
      · refine zV.wide (cm := 2 * n) (sm := 21 * n) (by omega) (by omega) (law_wear hf hL ht hscr hI p3 kk)
      · refine zV.wide (cm := 2 * n) (sm := 21 * n) (by omega) (by omega) (law_turn hf hL ht hscr hI p4 kk)
      · refine zV.wide (cm := 2 * n) (sm := 21 * n) (by omega) (by omega) (law_grind hf hL ht hscr hI p5 kk)
      · refine zV.wide (cm := 2 * n) (sm := 21 * n) (by omega) (by omega) (law_trail hf hL ht hscr hI p6 kk)
      · refine zV.wide (cm := 1 + 2 * n) (sm := 8 + 21 * n) (by omega) (by omega) (law_tool hf hL ht hscr hI p7 kk)
      · refine zV.wide (cm := 2 * n) (sm := 21 * n) (by omega) (by omega) (law_toolTold hf hL ht hscr hI p8 kk)
      · refine zV.wide (cm := 2 * n) (sm := 21 * n) (by omega) (by omega) (law_setter hf hL ht hscr hI p9 kk)
      · refine zV.wide (cm := 2 * n) (sm := 21 * n) (by omega) (by omega) (law_calibrate hf hL ht hscr hI p10 kk)
      · refine zV.wide (cm := 2 * n) (sm := 21 * n) (by omega) (by omega) (law_measure hf hL ht hscr hI p11 kk)
      · refine zV.wide (cm := 2 * n) (sm := 21 * n) (by omega) (by omega) (law_feed hf hL ht hscr hI p12 kk)
      · refine zV.wide (cm := 2 * n) (sm := 21 * n) (by omega) (by omega) (law_text hf hL ht hscr hI p13 kk)
      · refine zV.wide (cm := 2 * n) (sm := 21 * n) (by omega) (by omega) (law_force hf hL ht hscr hI p14 kk)
      · refine zV.wide (cm := 2 * n) (sm := 21 * n) (by omega) (by omega) (law_says hf hL ht hscr hI p15 kk)
      · refine zV.wide (cm := 2 + 2 * n) (sm := 19 + 21 * n) (by omega) (by omega) (law_machine hf hL ht hscr hI p16 kk)
      · refine zV.wide (cm := 2 * n) (sm := 21 * n) (by omega) (by omega) (law_put hf hL ht hscr hI p17 kk)
      · refine zV.wide (cm := 2 * n) (sm := 21 * n) (by omega) (by omega) (law_take hf hL ht hscr hI p18 kk)
      · refine zV.wide (cm := 2 * n) (sm := 21 * n) (by omega) (by omega) (law_at hf hL ht hscr hI p19 kk)
      · refine zV.wide (cm := 2 * n) (sm := 21 * n) (by omega) (by omega) (law_room hf hL ht hscr hI p20 kk)
      · refine zV.wide (cm := 2 * n) (sm := 21 * n) (by omega) (by omega) (law_cut hf hL ht hscr hI p21 kk)
      · refine zV.wide (cm := 2 * n) (sm := 21 * n) (by omega) (by omega) (law_job hf hL ht hscr hI p22 kk)
      · refine zV.wide (cm := 2 * n) (sm := 21 * n) (by omega) (by omega) (law_changes hf hL ht hscr hI p23 kk)
      · refine zV.wide (cm := 2 * n) (sm := 21 * n) (by omega) (by omega) (law_order hf hL ht hscr hI p24 kk)
      · refine zV.wide (cm := 2 * n) (sm := 21 * n) (by omega) (by omega) (law_count hf hL ht hscr hI p25 kk)
      · refine zV.wide (cm := 2 * n) (sm := 21 * n) (by omega) (by omega) (law_sheet hf hL ht hscr hI p26 kk)
      · refine zV.wide (cm := 2 * n) (sm := 21 * n) (by omega) (by omega) (law_cell hf hL ht hscr hI p27 kk)
      · refine zV.wide (cm := 2 * n) (sm := 21 * n) (by omega) (by omega) (law_cuts hf hL ht hscr hI p28 kk)
      · refine zV.wide (cm := 2 * n) (sm := 21 * n) (by omega) (by omega) (law_taken hf hL ht hscr hI p29 kk)
      · exact zV.wide (cm := 2 * n) (sm := 21 * n) (by omega) (by omega) (kk M hI hscr)
set_option maxRecDepth 20000 in
set_option maxHeartbeats 4000000 in
theorem law_start {Inv X0 : zM → Prop} {fr L cX sX cM sM : Nat} {xs : Nat → Int32} {M : zM} (hf : 201 ≤ fr) (hL : L ≤ 3072) (hP : zPairs Inv)
    (hXf : ∀ M M' : zM, (∀ a : zAd, a.1 < 40 → M' a = M a) → X0 M → X0 M')
    (hX : ∀ (fr : Nat) (M : zM), 200 ≤ fr → M (2, 0) = some (.inr (10, zf10)) → (∀ a : zAd, 2 ≤ a.1 → a ≠ (2, 0) → M a = none) → zCv zX10_init fr cX sX [zr (2, 0)] M (fun M1 => (∀ a : zAd, a.1 < 2 → M1 a = M a) ∧ (∀ a : zAd, 40 ≤ a.1 → M1 a = none) ∧ X0 M1))
    (hM : ∀ (fr : Nat) (M : zM), 200 ≤ fr → M (40, 0) = some (.inr (11, zf11)) → (∀ a : zAd, 40 ≤ a.1 → a ≠ (40, 0) → M a = none) → X0 M → zCv zX11_init fr cM sM [zr (40, 0)] M (fun M1 => (∀ a : zAd, a.1 < 2 → M1 a = M a) ∧ Inv M1))
    (hscr : zLL L xs M) (hM0 : ∀ a : zAd, 2 ≤ a.1 → M a = none) : zV zL_law fr (cX + (cM + 2 * (L / 6) + 1) + 1) (sX + (sM + 21 * (L / 6) + 59) + 16) 0 (zL [some (zr (1, 0))]) [] M (fun r _ => r = some (zi 1)) := by
  refine z_new (a := (2, 0)) iL_law_0 zfs_10 rfl (hM0 (2, 0) (by decide)) (by decide) ?_
  refine z_dup iL_law_3 ?_
  have hn1 : ∀ a : zAd, 2 ≤ a.1 → a ≠ (2, 0) → zupd M (2, 0) (.inr (10, zf10)) a = none := fun a h1 h2 => (zupd_n h2).trans (hM0 a h1)
  refine z_ci0vA (fr' := fr - 1) iL_law_4 zmX10_init (hX (fr - 1) _ (by omega) rfl hn1) (by omega) (Nat.le_of_ble_eq_true rfl) (fun M1 hq => ?_)
  obtain ⟨k1, k2, k3⟩ := hq
  refine z_as iL_law_7 ?_
  refine z_new (a := (40, 0)) iL_law_8 zfs_11 rfl (k2 (40, 0) (by decide)) (by decide) ?_
  refine z_dup iL_law_11 ?_
  have hn2 : ∀ a : zAd, 40 ≤ a.1 → a ≠ (40, 0) → zupd M1 (40, 0) (.inr (11, zf11)) a = none := fun a h1 h2 => (zupd_n h2).trans (k2 a h1)
  refine z_ci0vA (fr' := fr - 1) iL_law_12 zmX11_init (hM (fr - 1) _ (by omega) rfl hn2 (hXf _ _ (fun a ha => zupd_k (by intro q; rw [q] at ha; exact absurd ha (by decide))) k3)) (by omega) (Nat.le_of_ble_eq_true rfl) (fun M1 hq => ?_)
  obtain ⟨j1, j2⟩ := hq
  refine z_as iL_law_15 ?_
  refine z_co iL_law_16 ?_
  refine z_is iL_law_17 ?_
  refine z_loc [some (zr (1, 0)), some (zr (2, 0)), some (zr (40, 0)), some (zi (nI (6 * 0)))] ⟨rfl, rfl, rfl, rfl, trivial⟩ (law_loop (xs := xs) hf hL hP (L / 6) 0 _ (by omega) ?_ j2)
  exact (j1 (1, 0) (by decide)).trans ((zupd_k (Nat.ne_of_beq_eq_false rfl)).trans ((k1 (1, 0) (by decide)).trans ((zupd_k (Nat.ne_of_beq_eq_false rfl)).trans hscr)))
