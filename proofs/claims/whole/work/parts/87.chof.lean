/-- the goings, told -/
def evG (nx : Nat → Nat) (D : Nat) : Nat := match bst D nx 10 with
  | some g => mD D (2 ^ g)
  | none => D
def evF (nx : Nat → Nat) (C : Nat) : Nat → Nat
  | 0 => C
  | k + 1 => evG nx (evF nx C k)
theorem evP_F {nx : Nat → Nat} {C : Nat} (hC : C < 1024) : ∀ {k E : Nat}, evP nx C k E → E = evF nx C k
  | 0, _, h => h
  | k + 1, E, ⟨D, g, h1, g1, e1⟩ => by
    have hD := (evP_f hC h1).1
    have h0 : ¬ D = 0 := fun z => by
      have a := g1.1
      rw [z, Nat.zero_testBit] at a
      exact absurd a (by decide)
    obtain ⟨g', hb, hg'⟩ := bst_P hD h0
    have e := tpP_1 g1 hg'
    subst e
    show E = evG nx (evF nx C k)
    rw [← evP_F hC h1, e1]
    unfold evG
    rw [hb]
def chF (V : Nat → Nat) (N R : Nat) : Nat → Nat × Nat
  | 0 => (0, 0)
  | i + 1 => (V i ||| evF (fun f => nxF V f (N - (i + 1)) (i + 1)) (mD (chF V N R i).1 (V i)) (zPop ((chF V N R i).1 ||| V i) - R), (chF V N R i).2 + zPop (mD (V i) (chF V N R i).1))
theorem zPop_10 (n : Nat) : zPop n ≤ 10 := Nat.le_trans (List.length_filter_le _ _) (by simp)
theorem chF_d {V : Nat → Nat} {N R : Nat} : ∀ i, (chF V N R i).2 ≤ 10 * i
  | 0 => Nat.le_refl _
  | i + 1 => by
    have a := chF_d (V := V) (N := N) (R := R) i
    have b := zPop_10 (mD (V i) (chF V N R i).1)
    show (chF V N R i).2 + zPop (mD (V i) (chF V N R i).1) ≤ 10 * (i + 1)
    omega
theorem chP_F {V : Nat → Nat} {N R : Nat} (hV : ∀ i, i < N → V i < 1024) : ∀ {i t d : Nat}, i ≤ N → chP V N R i t d → t = (chF V N R i).1 ∧ d = (chF V N R i).2 ∧ t < 1024
  | 0, _, _, _, h => ⟨h.1, h.2, by rw [h.1]; decide⟩
  | i + 1, t, d, hi, ⟨t0, d0, E, h1, h2, h3, h4⟩ => by
    obtain ⟨a1, a2, a3⟩ := chP_F hV (show i ≤ N by omega) h1
    have b := evP_F (mD_lt a3) h3
    have c := (evP_f (mD_lt a3) h3).1
    subst a1; subst a2
    refine ⟨?_, h2, ?_⟩
    · rw [h4, b]; rfl
    · rw [h4]; exact mOr_lt (hV i (by omega)) c
/-- what the changes of a row come to -/
def chV (V : Nat → Nat) (N R : Nat) : Int32 := if ∀ i, i < N → zPop (V i) ≤ R then nI (chF V N R N).2 else -1
theorem chX_V {V : Nat → Nat} {N R : Nat} {x : Int32} (hV : ∀ i, i < N → V i < 1024) (h : chX V N R x) : x = chV V N R := by
  unfold chV
  rcases h with ⟨⟨i, h1, h2⟩, h3⟩ | ⟨h1, t, d, h2, h3⟩
  · rw [if_neg (fun q => by have := q i h1; omega)]; exact h3
  · rw [if_pos h1, h3, (chP_F hV (Nat.le_refl _) h2).2.1]
set_option maxRecDepth 20000 in
set_option maxHeartbeats 4000000 in
theorem l11_chOf {fr : Nat} {M : zM} {I J : zSI} {A : zSA} {L : zSL} {K : Int64} (hR : RepM M I A L J K) {N : Nat} {W P : Nat → Nat} (hJ : jmR I A N W P) {R : Nat} (hf : 2 ≤ fr) (hall : ∀ i, i < N → zPop (W (P i)) ≤ R) (hR9 : R ≤ 9)  : ∀ (n i : Nat) (t d : Nat), i + n = N → chP (fun i => W (P i)) N R i t d → t < 1024 → zPop t ≤ R → zV zX11_changesOf fr 0 0 7 (zL [some (zr (40, 0)), some (zi (nI R)), some (zi (nI t)), some (zi (nI d)), some (zi (nI i))]) [] M (fun r M' => ∃ x, r = some (zi x) ∧ M' = M ∧ x = nI (chF (fun i => W (P i)) N R N).2) := by
  intro n
  induction n with
  | zero =>
    intro i t d hn hch ht hpR
    obtain ⟨hI9, hw, hr, hN, hWl, hPl⟩ := hJ
    have hJ : jmR I A N W P := ⟨hI9, hw, hr, hN, hWl, hPl⟩
    have eN := nI_toInt (n := N) (by omega)
    have ei := nI_toInt (n := i) (by omega)
    have hVl : ∀ i, i < N → (fun i => W (P i)) i < 1024 := fun i hi => hWl _ (hPl i hi)
    refine z_il iX11_changesOf_7 rfl ?_
    refine z_al iX11_changesOf_9 rfl ?_
    refine z_gf iX11_changesOf_10 hR.1 rfl ?_
    refine z_icmp_ge iX11_changesOf_13 (fun h1 => ?_) (fun h1 => ?_)
    · refine z_il iX11_changesOf_170 rfl ?_
      refine z_iret iX11_changesOf_171 rfl ?_
      have hiN : i = N := by omega
      subst hiN
      exact ⟨_, rfl, rfl, congrArg nI (chP_F hVl (Nat.le_refl _) hch).2.1⟩
    · exfalso
      simp only [hI9, zi_le, eN, ei] at h1
      omega
  | succ n ih =>
    intro i t d hn hch ht hpR
    obtain ⟨hI9, hw, hr, hN, hWl, hPl⟩ := hJ
    have hJ : jmR I A N W P := ⟨hI9, hw, hr, hN, hWl, hPl⟩
    have eN := nI_toInt (n := N) (by omega)
    have ei := nI_toInt (n := i) (by omega)
    have hVl : ∀ i, i < N → (fun i => W (P i)) i < 1024 := fun i hi => hWl _ (hPl i hi)
    refine z_il iX11_changesOf_7 rfl ?_
    refine z_al iX11_changesOf_9 rfl ?_
    refine z_gf iX11_changesOf_10 hR.1 rfl ?_
    refine z_icmp_ge iX11_changesOf_13 (fun h1 => ?_) (fun h1 => ?_)
    · exfalso
      simp only [hI9, zi_le, eN, ei] at h1
      omega
    · have hp := hPl i (by omega)
      have ep := nI_toInt (n := P i) (by omega)
      refine z_al iX11_changesOf_16 rfl ?_
      refine z_gf iX11_changesOf_17 hR.1 rfl ?_
      refine z_al iX11_changesOf_20 rfl ?_
      refine z_gf iX11_changesOf_21 hR.1 rfl ?_
      refine z_il iX11_changesOf_24 rfl ?_
      refine z_iald iX11_changesOf_26 (hR.2.1 30 (by decide)) ei (show i < 6 by omega) ?_
      rw [hr i (by omega)]
      refine z_iald iX11_changesOf_27 (hR.2.1 25 (by decide)) ep (show P i < 6 by omega) ?_
      rw [hw _ hp]
      refine z_is iX11_changesOf_28 ?_
      refine z_co iX11_changesOf_30 ?_
      refine z_is iX11_changesOf_31 ?_
      refine z_loc [some (zr (40, 0)), some (zi (nI R)), some (zi (nI t)), some (zi (nI d)), some (zi (nI i)), some (zi (nI (W (P i)))), some (zi (nI 0))] ⟨rfl, rfl, rfl, rfl, rfl, rfl, rfl, trivial⟩ (l11_fam hR hJ hf (show i < N by omega) ht (hWl _ hp) (hall i (by omega)) hpR hR9 (fun t2 d2 hfm => ?_) 10 0 t d (by omega) (fmP_0 hpR))
      obtain ⟨E, q1, q2, q3⟩ := fmP_10 ht (hWl _ hp) hfm
      have q4 := fmP_lt ht (hWl _ hp) hfm
      have q5 := fmP_pop ht hfm
      refine z_in iX11_changesOf_164 rfl ?_
      refine z_goto iX11_changesOf_167 ?_
      refine z_loc [some (zr (40, 0)), some (zi (nI R)), some (zi (nI t2)), some (zi (nI d2)), some (zi (nI (i + 1)))] ⟨rfl, rfl, rfl, rfl, ?_, trivial⟩ (ih (i + 1) t2 d2 (by omega) ⟨t, d, E, hch, q3, q1, q2⟩ q4 ?_)
      · show some (zi (nI i + 1)) = _
        rw [nI_1]
      · by_cases z : R ≤ zPop t + zPop (mD (W (P i)) t % 2 ^ 10)
        · rw [q5.2 z]; omega
        · rw [q5.1 (by omega)]; omega
set_option maxRecDepth 20000 in
set_option maxHeartbeats 4000000 in
theorem c11_changesOf {fr : Nat} {M : zM} {I J : zSI} {A : zSA} {L : zSL} {K : Int64} (hR : RepM M I A L J K) {N : Nat} {W P : Nat → Nat} (hJ : jmR I A N W P) {R : Nat} (hf : 2 ≤ fr) (hall : ∀ i, i < N → zPop (W (P i)) ≤ R) (hR9 : R ≤ 9) : zCi zX11_changesOf fr 0 0 [zr (40, 0), zi (nI R)] M (fun x M' => M' = M ∧ x = nI (chF (fun i => W (P i)) N R N).2) := by
  refine z_enter (L := [some (zr (40, 0)), some (zi (nI R))]) rfl (by decide +kernel) (Nat.le_of_ble_eq_true rfl) ?_
  refine z_co iX11_changesOf_0 ?_
  refine z_is iX11_changesOf_1 ?_
  refine z_co iX11_changesOf_2 ?_
  refine z_is iX11_changesOf_3 ?_
  refine z_co iX11_changesOf_4 ?_
  refine z_is iX11_changesOf_5 ?_
  refine z_loc [some (zr (40, 0)), some (zi (nI R)), some (zi (nI 0)), some (zi (nI 0)), some (zi (nI 0))] ⟨rfl, rfl, rfl, rfl, rfl, trivial⟩ ?_
  exact l11_chOf hR hJ hf hall hR9 N 0 0 0 (by omega) ⟨rfl, rfl⟩ (by decide) (by rw [show zPop 0 = 0 by decide]; omega)
set_option maxRecDepth 20000 in
set_option maxHeartbeats 4000000 in
theorem l11_isRoom {fr : Nat} {M : zM} {I J : zSI} {A : zSA} {L : zSL} {K : Int64} (hR : RepM M I A L J K) {N R : Nat} {W : Nat → Nat} (hI9 : I 9 = nI N) (hw : ∀ j, j < N → A 25 j = nI (W j)) (hN : N ≤ 6) (hWl : ∀ j, j < N → W j < 1024) (hf : 1 ≤ fr) (hR9 : R ≤ 9)  : ∀ (n i : Nat), i + n = N → (∀ j, j < i → zPop (W j) ≤ R) → zV zX11_isRoom fr 0 0 2 (zL [some (zr (40, 0)), some (zi (nI R)), some (zi (nI i))]) [] M (fun r M' => ∃ x, r = some (zi x) ∧ M' = M ∧ x = zbo (∀ j, j < N → zPop (W j) ≤ R)) := by
  intro n
  induction n with
  | zero =>
    intro i  hn hall
    have eN := nI_toInt (n := N) (by omega)
    have ei := nI_toInt (n := i) (by omega)
    have eR := nI_toInt (n := R) (by omega)
    refine z_il iX11_isRoom_2 rfl ?_
    refine z_al iX11_isRoom_3 rfl ?_
    refine z_gf iX11_isRoom_4 hR.1 rfl ?_
    refine z_icmp_ge iX11_isRoom_7 (fun h1 => ?_) (fun h1 => ?_)
    · refine z_co iX11_isRoom_31 ?_
      refine z_zret iX11_isRoom_32 rfl rfl ?_
      exact ⟨_, rfl, rfl, (zbo_1 (fun j hj => hall j (by omega))).symm⟩
    · exfalso
      simp only [hI9, zi_le, eN, ei] at h1
      omega
  | succ n ih =>
    intro i  hn hall
    have eN := nI_toInt (n := N) (by omega)
    have ei := nI_toInt (n := i) (by omega)
    have eR := nI_toInt (n := R) (by omega)
    refine z_il iX11_isRoom_2 rfl ?_
    refine z_al iX11_isRoom_3 rfl ?_
    refine z_gf iX11_isRoom_4 hR.1 rfl ?_
    refine z_icmp_ge iX11_isRoom_7 (fun h1 => ?_) (fun h1 => ?_)
    · exfalso
      simp only [hI9, zi_le, eN, ei] at h1
      omega
    · refine z_al iX11_isRoom_10 rfl ?_
      refine z_gf iX11_isRoom_11 hR.1 rfl ?_
      refine z_il iX11_isRoom_14 rfl ?_
      refine z_iald iX11_isRoom_15 (hR.2.1 25 (by decide)) ei (show i < 6 by omega) ?_
      rw [hw i (by omega)]
      refine z_cs1i (fr' := fr - 1) iX11_isRoom_16 zmX11_bits (c11_bits (hWl i (by omega))) (by omega) (Nat.le_of_ble_eq_true rfl) (fun x M1 hq => ?_)
      obtain ⟨rfl, rfl⟩ := hq
      have e2 := nI_toInt (n := zPop (W i)) (by have := zPop_10 (W i); omega)
      refine z_il iX11_isRoom_19 rfl ?_
      refine z_icmp_le iX11_isRoom_20 (fun h2 => ?_) (fun h2 => ?_)
      · refine z_in iX11_isRoom_25 rfl ?_
        refine z_goto iX11_isRoom_28 ?_
        refine z_loc [some (zr (40, 0)), some (zi (nI R)), some (zi (nI (i + 1)))] ⟨rfl, rfl, ?_, trivial⟩ (ih (i + 1) (by omega) (fun j hj => ?_))
        · show some (zi (nI i + 1)) = _
          rw [nI_1]
        · by_cases z : j = i
          · rw [z]
            simp only [zi_le, e2, eR] at h2
            omega
          · exact hall j (by omega)
      · refine z_co iX11_isRoom_23 ?_
        refine z_zret iX11_isRoom_24 rfl rfl ?_
        refine ⟨_, rfl, rfl, (zbo_0 (fun q => ?_)).symm⟩
        have q2 := q i (by omega)
        simp only [zi_le, e2, eR] at h2
        omega
set_option maxRecDepth 20000 in
set_option maxHeartbeats 4000000 in
theorem c11_isRoom {fr : Nat} {M : zM} {I J : zSI} {A : zSA} {L : zSL} {K : Int64} (hR : RepM M I A L J K) {N R : Nat} {W : Nat → Nat} (hI9 : I 9 = nI N) (hw : ∀ j, j < N → A 25 j = nI (W j)) (hN : N ≤ 6) (hWl : ∀ j, j < N → W j < 1024) (hf : 1 ≤ fr) (hR9 : R ≤ 9) : zCi zX11_isRoom fr 0 0 [zr (40, 0), zi (nI R)] M (fun x M' => M' = M ∧ x = zbo (∀ j, j < N → zPop (W j) ≤ R)) := by
  refine z_enter (L := [some (zr (40, 0)), some (zi (nI R))]) rfl (by decide +kernel) (Nat.le_of_ble_eq_true rfl) ?_
  refine z_co iX11_isRoom_0 ?_
  refine z_is iX11_isRoom_1 ?_
  refine z_loc [some (zr (40, 0)), some (zi (nI R)), some (zi (nI 0))] ⟨rfl, rfl, rfl, trivial⟩ ?_
  exact l11_isRoom hR hI9 hw hN hWl hf hR9 N 0 (by omega) (fun j hj => absurd hj (Nat.not_lt_zero j))
