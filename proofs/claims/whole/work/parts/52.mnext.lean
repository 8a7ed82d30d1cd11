set_option maxRecDepth 20000 in
set_option maxHeartbeats 4000000 in
theorem c11_byteAt {fr : Nat} {M : zM} {I J : zSI} {A : zSA} {K : Int64} {t n : Nat} (hobj : M (40, 0) = some (.inr (11, mObj I J K))) (h19 : M (41, 19) = some (.inl (0, 960, .inl (A 19)))) (j1 : J 1 = nI (160 * t)) (j2 : J 2 = nI n) (ht : t < 6) (hn : n ≤ 160) (i : Nat) (hi : i ≤ 160) : zCi zX11_byteAt fr 0 0 [zr (40, 0), zi (nI i)] M (fun x M' => M' = M ∧ x = if i < n then zRow A t i else -1) := by
  refine z_enter (L := [some (zr (40, 0)), some (zi (nI i))]) rfl (by decide +kernel) (Nat.le_of_ble_eq_true rfl) ?_
  have e1 := nI_toInt (n := i) (by omega)
  have e2 := nI_toInt (n := n) (by omega)
  have e3 := nI_toInt (n := 160 * t) (by omega)
  refine z_il iX11_byteAt_0 rfl ?_
  refine z_al iX11_byteAt_1 rfl ?_
  refine z_gf iX11_byteAt_2 hobj rfl ?_
  rw [j2]
  refine z_icmp_ge iX11_byteAt_5 (fun h1 => ?_) (fun h1 => ?_)
  · refine z_co iX11_byteAt_22 ?_
    refine z_iret iX11_byteAt_23 rfl ?_
    refine ⟨_, rfl, rfl, ?_⟩
    by_cases q : i < n
    · refine Eq.trans ?_ (if_pos q).symm
      first | exact (zCut_i (u := fun j => A 19 (160 * t + j)) (show i < 160 by omega)).symm | (exfalso; simp only [zi_le, e1, e2] at h1; omega)
    · refine Eq.trans ?_ (if_neg q).symm
      first | rfl | (exfalso; simp only [zi_le, e1, e2] at h1; omega)
  · refine z_al iX11_byteAt_8 rfl ?_
    refine z_gf iX11_byteAt_9 hobj rfl ?_
    refine z_al iX11_byteAt_12 rfl ?_
    refine z_gf iX11_byteAt_13 hobj rfl ?_
    refine z_il iX11_byteAt_16 rfl ?_
    rw [j1]
    refine z_iadd iX11_byteAt_17 ?_
    refine z_iald iX11_byteAt_18 h19 (show (nI (160 * t) + nI i).toInt = ((160 * t + i : Nat) : Int) by rw [zadd (by omega) (by omega)]; omega) (show 160 * t + i < 960 by simp only [zi_le, e1, e2] at h1; omega) ?_
    refine z_goto iX11_byteAt_19 ?_
    refine z_iret iX11_byteAt_23 rfl ?_
    refine ⟨_, rfl, rfl, ?_⟩
    by_cases q : i < n
    · refine Eq.trans ?_ (if_pos q).symm
      first | exact (zCut_i (u := fun j => A 19 (160 * t + j)) (show i < 160 by omega)).symm | (exfalso; simp only [zi_le, e1, e2] at h1; omega)
    · refine Eq.trans ?_ (if_neg q).symm
      first | rfl | (exfalso; simp only [zi_le, e1, e2] at h1; omega)
/-- what the model knows of a token with the class's code T -/
def mkTok (T j3 : Int32) (K : Int64) : Prop := (j3 = 0 ∧ T = -20) ∨ (j3 = 1 ∧ ∃ ds, T = tkWord ds ∧ ((tkDec 7 (tkVal ds) = ds ∧ tkVal ds < 27 ^ 7 ∧ K = Int64.ofNat (tkVal ds)) ∨ (7 < ds.length ∧ K = -1))) ∨ (j3 = 2 ∧ 0 ≤ T ∧ K.toInt32 = T) ∨ (j3 = 3 ∧ K = (-T).toInt64 ∧ (T = -40 ∨ T = -41 ∨ T = -59 ∨ T = -43 ∨ T = -45 ∨ T = -42 ∨ T = -60 ∨ T = -61)) ∨ (j3 = 4 ∧ T = -21)
/-- the token that begins at or behind h, as the model's next leaves it -/
def mkAt (u : Nat → Int32) (n h : Nat) (J : zSI) (K : Int64) : Prop := mkTok (if tkSkip u n h < n then tkCode u n (tkSkip u n h) else -20) (J 3) K ∧ J 4 = nI (tkSkip u n h) ∧ ((if tkSkip u n h < n then tkCode u n (tkSkip u n h) else -20) ≠ -21 → J 5 = nI (if tkSkip u n h < n then tkEnd u n (tkSkip u n h) else n))
