/-- what the setter reads -/
def zReads (off drift n : Int32) : Int32 := (n - off) * (1000 + drift) / 1000
set_option maxRecDepth 20000 in
set_option maxHeartbeats 4000000 in
theorem c4_reads {fr : Nat} {M : zM} {g : zAd} {o d f : Int32} (hthis : M g = some (.inr (4, [zi o, zi d, zi f]))) (n : Int32) : zCi zX4_reads fr 0 0 [zr g, zi n] M (fun x M' => M' = M ∧ x = zReads o d n) := by
  refine z_enter (L := [some (zr g), some (zi n)]) rfl (by decide +kernel) (Nat.le_of_ble_eq_true rfl) ?_
  refine z_il iX4_reads_0 rfl ?_
  refine z_al iX4_reads_1 rfl ?_
  refine z_gf iX4_reads_2 hthis rfl ?_
  refine z_isub iX4_reads_5 ?_
  refine z_co iX4_reads_6 ?_
  refine z_al iX4_reads_9 rfl ?_
  refine z_gf iX4_reads_10 hthis rfl ?_
  refine z_iadd iX4_reads_13 ?_
  refine z_imul iX4_reads_14 ?_
  refine z_co iX4_reads_15 ?_
  refine z_idiv iX4_reads_18 (by decide) ?_
  refine z_iret iX4_reads_19 rfl ?_
  exact ⟨_, rfl, rfl, rfl⟩
set_option maxRecDepth 20000 in
set_option maxHeartbeats 4000000 in
theorem c4_init {fr : Nat} {M : zM} {g : zAd} (hf : 1 ≤ fr) : zCv zX4_init fr 0 0 [zr g] M (fun M' => M' = M) := by
  refine z_enter (L := [some (zr g)]) rfl (by decide +kernel) (Nat.le_of_ble_eq_true rfl) ?_
  refine z_al iX4_init_0 rfl ?_
  refine z_oi iX4_init_1 (by omega) (by decide) ?_
  refine z_vret iX4_init_4 rfl ?_
  exact ⟨rfl, rfl⟩
set_option maxRecDepth 20000 in
set_option maxHeartbeats 4000000 in
theorem c6_init {fr : Nat} {M : zM} {a : zAd} (hf : 1 ≤ fr) (h2 : 2 ≤ a.1) (hq0 : a.1 ≠ 22) (hthis : M a = some (.inr (6, zf6))) (nw : M (22, 0) = none) : zCv zX6_init fr 1 64 [zr a] M (fun M' => M' = zupd (zupd M (22, 0) (.inl (0, 64, .inl fun _ => 0))) a (.inr (6, [zr (22, 0), zi 0]))) := by
  refine z_enter (L := [some (zr a)]) rfl (by decide +kernel) (Nat.le_of_ble_eq_true rfl) ?_
  refine z_al iX6_init_0 rfl ?_
  refine z_oi iX6_init_1 (by omega) (by decide) ?_
  refine z_al iX6_init_4 rfl ?_
  refine z_co iX6_init_5 ?_
  refine z_newI (a := (22, 0)) (N := 64) iX6_init_7 zac_int rfl (by decide) nw (by decide) ?_
  refine z_pf iX6_init_9 ((zupd_k hq0).trans hthis) h2 (Nat.le_of_ble_eq_true rfl) trivial ?_
  refine z_vret iX6_init_12 rfl ?_
  exact ⟨rfl, rfl⟩
set_option maxRecDepth 20000 in
set_option maxHeartbeats 4000000 in
theorem c6_clear {fr : Nat} {M : zM} {a : zAd} {w : zAd} {h : Int32} (h2 : 2 ≤ a.1) (hthis : M a = some (.inr (6, [zr w, zi h]))) : zCv zX6_clear fr 0 0 [zr a] M (fun M' => M' = zupd M a (.inr (6, [zr w, zi 0]))) := by
  refine z_enter (L := [some (zr a)]) rfl (by decide +kernel) (Nat.le_of_ble_eq_true rfl) ?_
  refine z_al iX6_clear_0 rfl ?_
  refine z_co iX6_clear_1 ?_
  refine z_pf iX6_clear_2 hthis h2 (Nat.le_of_ble_eq_true rfl) trivial ?_
  refine z_vret iX6_clear_5 rfl ?_
  exact ⟨rfl, rfl⟩
set_option maxRecDepth 20000 in
set_option maxHeartbeats 4000000 in
theorem c6_push {fr : Nat} {M : zM} {a w : zAd} {f : Nat → Int32} {k : Nat} (h2 : 2 ≤ a.1) (h2w : 2 ≤ w.1) (hne : a.1 ≠ w.1) (hk : k < 64) (hthis : M a = some (.inr (6, [zr w, zi (nI k)]))) (hw : M w = some (.inl (0, 64, .inl f))) (n : Int32) : zCv zX6_push fr 0 0 [zr a, zi n] M (fun M' => M' = zupd (zupd M w (.inl (0, 64, .inl (zup f k n)))) a (.inr (6, [zr w, zi (nI k + 1)]))) := by
  refine z_enter (L := [some (zr a), some (zi n)]) rfl (by decide +kernel) (Nat.le_of_ble_eq_true rfl) ?_
  refine z_al iX6_push_0 rfl ?_
  refine z_gf iX6_push_1 hthis rfl ?_
  refine z_co iX6_push_4 ?_
  refine z_icmp_ge iX6_push_6 (fun h1 => ?_) (fun h1 => ?_)
  · exact absurd h1 (nI_ge hk (by decide))
  · refine z_al iX6_push_9 rfl ?_
    refine z_gf iX6_push_10 hthis rfl ?_
    refine z_al iX6_push_13 rfl ?_
    refine z_gf iX6_push_14 hthis rfl ?_
    refine z_il iX6_push_17 rfl ?_
    refine z_iast iX6_push_18 hw h2w (nI_toInt (by omega)) hk ?_
    refine z_al iX6_push_19 rfl ?_
    refine z_dup iX6_push_20 ?_
    refine z_gf iX6_push_21 ((zupd_k hne).trans hthis) rfl ?_
    refine z_co iX6_push_24 ?_
    refine z_iadd iX6_push_25 ?_
    refine z_pf iX6_push_26 ((zupd_k hne).trans hthis) h2 (Nat.le_of_ble_eq_true rfl) trivial ?_
    refine z_vret iX6_push_29 rfl ?_
    exact ⟨rfl, rfl⟩
set_option maxRecDepth 20000 in
set_option maxHeartbeats 4000000 in
theorem c6_pop {fr : Nat} {M : zM} {a w : zAd} {f : Nat → Int32} {k : Nat} (h2 : 2 ≤ a.1) (hk : k < 64) (hthis : M a = some (.inr (6, [zr w, zi (nI (k + 1))]))) (hw : M w = some (.inl (0, 64, .inl f))) (hne : w.1 ≠ a.1) : zCi zX6_pop fr 0 0 [zr a] M (fun x M' => M' = zupd M a (.inr (6, [zr w, zi (nI (k + 1) - 1)])) ∧ x = f k) := by
  refine z_enter (L := [some (zr a)]) rfl (by decide +kernel) (Nat.le_of_ble_eq_true rfl) ?_
  refine z_al iX6_pop_0 rfl ?_
  refine z_gf iX6_pop_1 hthis rfl ?_
  refine z_if_gt iX6_pop_4 (fun h1 => ?_) (fun h1 => ?_)
  · refine z_al iX6_pop_9 rfl ?_
    refine z_dup iX6_pop_10 ?_
    refine z_gf iX6_pop_11 hthis rfl ?_
    refine z_co iX6_pop_14 ?_
    refine z_isub iX6_pop_15 ?_
    refine z_pf iX6_pop_16 hthis h2 (Nat.le_of_ble_eq_true rfl) trivial ?_
    refine z_al iX6_pop_19 rfl ?_
    refine z_gf iX6_pop_20 zupd_s rfl ?_
    refine z_al iX6_pop_23 rfl ?_
    refine z_gf iX6_pop_24 zupd_s rfl ?_
    refine z_iald iX6_pop_27 ((zupd_k hne).trans hw) (by rw [nI_pred]; exact nI_toInt (by omega)) hk ?_
    refine z_iret iX6_pop_28 rfl ?_
    exact ⟨_, rfl, rfl, rfl⟩
  · exact absurd (nI_pos' (n := k + 1) (by omega)) (fun q => by have := nI_toInt (n := k + 1) (by omega); simp only [zi_le, zi_lt, Int32.reduceToInt] at *; omega)
set_option maxRecDepth 20000 in
set_option maxHeartbeats 4000000 in
theorem c9_nominal {fr : Nat} {M : zM} {t e : zAd} {x0 x1 x3 x4 x5 x6 x7 y0 y1 y2 y4 y5 y6 y7 y8 y9 y10 y11 : Int32} {y12 : Int64} {b : zAd} (hthis : M t = some (.inr (9, [zi x0, zi x1, zr e, zi x3, zi x4, zi x5, zi x6, zi x7]))) (hedge : M e = some (.inr (0, [zi y0, zi y1, zi y2, zr b, zi y4, zi y5, zi y6, zi y7, zi y8, zi y9, zi y10, zi y11, zl y12]))) : zCi zX9_nominal fr 0 0 [zr t] M (fun x M' => M' = M ∧ x = x0 + y5) := by
  refine z_enter (L := [some (zr t)]) rfl (by decide +kernel) (Nat.le_of_ble_eq_true rfl) ?_
  refine z_al iX9_nominal_0 rfl ?_
  refine z_gf iX9_nominal_1 hthis rfl ?_
  refine z_al iX9_nominal_4 rfl ?_
  refine z_gf iX9_nominal_5 hthis rfl ?_
  refine z_gf iX9_nominal_8 hedge rfl ?_
  refine z_iadd iX9_nominal_11 ?_
  refine z_iret iX9_nominal_12 rfl ?_
  exact ⟨_, rfl, rfl, rfl⟩
