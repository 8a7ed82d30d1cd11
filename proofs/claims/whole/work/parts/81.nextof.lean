/-- how the model holds the jobs -/
def jmR (I : zSI) (A : zSA) (N : Nat) (W P : Nat → Nat) : Prop := I 9 = nI N ∧ (∀ j, j < N → A 25 j = nI (W j)) ∧ (∀ i, i < N → A 30 i = nI (P i)) ∧ N ≤ 6 ∧ (∀ j, j < N → W j < 1024) ∧ ∀ i, i < N → P i < N
theorem mk_set {a f : Nat} (ha : a < 1024) (hf : f < 10) : (nI a >>> (nI f &&& 31)) &&& 1 = 0 ↔ ¬ a.testBit f = true := by
  rw [mk_test a ha f hf]
  by_cases z : a.testBit f = true
  · rw [if_pos z]; exact ⟨fun q => absurd q (by decide), fun q => absurd z q⟩
  · rw [if_neg z]; exact ⟨fun _ => z, fun _ => rfl⟩
set_option maxRecDepth 20000 in
set_option maxHeartbeats 4000000 in
theorem l11_nextOf {fr : Nat} {M : zM} {I J : zSI} {A : zSA} {L : zSL} {K : Int64} (hR : RepM M I A L J K) {N : Nat} {W P : Nat → Nat} (hJ : jmR I A N W P) {f s : Nat} (hf10 : f < 10)  : ∀ (n i : Nat), i + n = N → zV zX11_nextOf fr 0 0 4 (zL [some (zr (40, 0)), some (zi (nI f)), some (zi (nI s)), some (zi (nI i))]) [] M (fun r M' => ∃ x, r = some (zi x) ∧ M' = M ∧ x = nI (nxF (fun i => W (P i)) f n i)) := by
  intro n
  induction n with
  | zero =>
    intro i  hn 
    obtain ⟨hI9, hw, hr, hN, hWl, hPl⟩ := hJ
    have eN := nI_toInt (n := N) (by omega)
    have ei := nI_toInt (n := i) (by omega)
    refine z_il iX11_nextOf_4 rfl ?_
    refine z_al iX11_nextOf_5 rfl ?_
    refine z_gf iX11_nextOf_6 hR.1 rfl ?_
    refine z_icmp_ge iX11_nextOf_9 (fun h1 => ?_) (fun h1 => ?_)
    · refine z_il iX11_nextOf_36 rfl ?_
      refine z_iret iX11_nextOf_37 rfl ?_
      exact ⟨_, rfl, rfl, rfl⟩
    · exfalso
      simp only [hI9, zi_le, eN, ei] at h1
      omega
  | succ n ih =>
    intro i  hn 
    obtain ⟨hI9, hw, hr, hN, hWl, hPl⟩ := hJ
    have eN := nI_toInt (n := N) (by omega)
    have ei := nI_toInt (n := i) (by omega)
    refine z_il iX11_nextOf_4 rfl ?_
    refine z_al iX11_nextOf_5 rfl ?_
    refine z_gf iX11_nextOf_6 hR.1 rfl ?_
    refine z_icmp_ge iX11_nextOf_9 (fun h1 => ?_) (fun h1 => ?_)
    · exfalso
      simp only [hI9, zi_le, eN, ei] at h1
      omega
    · have hp := hPl i (by omega)
      have ep := nI_toInt (n := P i) (by omega)
      refine z_al iX11_nextOf_12 rfl ?_
      refine z_gf iX11_nextOf_13 hR.1 rfl ?_
      refine z_al iX11_nextOf_16 rfl ?_
      refine z_gf iX11_nextOf_17 hR.1 rfl ?_
      refine z_il iX11_nextOf_20 rfl ?_
      refine z_iald iX11_nextOf_21 (hR.2.1 30 (by decide)) ei (show i < 6 by omega) ?_
      rw [hr i (by omega)]
      refine z_iald iX11_nextOf_22 (hR.2.1 25 (by decide)) ep (show P i < 6 by omega) ?_
      rw [hw _ hp]
      refine z_il iX11_nextOf_23 rfl ?_
      refine z_ishr iX11_nextOf_24 ?_
      refine z_co iX11_nextOf_25 ?_
      refine z_iand iX11_nextOf_26 ?_
      refine z_if_ne iX11_nextOf_27 (fun h2 => ?_) (fun h2 => ?_)
      · refine z_il iX11_nextOf_36 rfl ?_
        refine z_iret iX11_nextOf_37 rfl ?_
        have hb : (W (P i)).testBit f = true := Decidable.of_not_not (fun q => h2 ((mk_set (hWl _ hp) hf10).mpr q))
        exact ⟨_, rfl, rfl, congrArg nI (if_pos hb : nxF (fun i => W (P i)) f (n + 1) i = i).symm⟩
      · refine z_in iX11_nextOf_30 rfl ?_
        refine z_goto iX11_nextOf_33 ?_
        have hb : ¬ (W (P i)).testBit f = true := (mk_set (hWl _ hp) hf10).mp h2
        have e : nxF (fun i => W (P i)) f (n + 1) i = nxF (fun i => W (P i)) f n (i + 1) := if_neg hb
        rw [e]
        refine z_loc [some (zr (40, 0)), some (zi (nI f)), some (zi (nI s)), some (zi (nI (i + 1)))] ⟨rfl, rfl, rfl, ?_, trivial⟩ (ih (i + 1) (by omega))
        show some (zi (nI i + 1)) = _
        rw [nI_1]
set_option maxRecDepth 20000 in
set_option maxHeartbeats 4000000 in
theorem c11_nextOf {fr : Nat} {M : zM} {I J : zSI} {A : zSA} {L : zSL} {K : Int64} (hR : RepM M I A L J K) {N : Nat} {W P : Nat → Nat} (hJ : jmR I A N W P) {f s : Nat} (hs : s < N) (hf10 : f < 10) : zCi zX11_nextOf fr 0 0 [zr (40, 0), zi (nI f), zi (nI s)] M (fun x M' => M' = M ∧ x = nI (nxF (fun i => W (P i)) f (N - (s + 1)) (s + 1))) := by
  refine z_enter (L := [some (zr (40, 0)), some (zi (nI f)), some (zi (nI s))]) rfl (by decide +kernel) (Nat.le_of_ble_eq_true rfl) ?_
  refine z_il iX11_nextOf_0 rfl ?_
  refine z_co iX11_nextOf_1 ?_
  refine z_iadd iX11_nextOf_2 ?_
  refine z_is iX11_nextOf_3 ?_
  refine z_loc [some (zr (40, 0)), some (zi (nI f)), some (zi (nI s)), some (zi (nI (s + 1)))] ⟨rfl, rfl, rfl, ?_, trivial⟩ (l11_nextOf hR hJ hf10 (N - (s + 1)) (s + 1) (by omega))
  show some (zi (nI s + 1)) = _
  rw [nI_1]
