set_option maxRecDepth 20000 in
set_option maxHeartbeats 4000000 in
theorem kc4_init {fr : Nat} {M : zM} (hf : 1 ≤ fr) (a : zAd) : zCv zX4_init fr 0 0 [zr a] M (fun M' => M' = M) := by
  refine z_enter (L := [some (zr a)]) rfl (by decide +kernel) (Nat.le_of_ble_eq_true rfl) ?_
  refine z_al iX4_init_0 rfl ?_
  refine z_oi iX4_init_1 (by omega) (by decide) ?_
  refine z_vret iX4_init_4 rfl ?_
  exact ⟨rfl, rfl⟩
set_option maxRecDepth 20000 in
set_option maxHeartbeats 4000000 in
theorem kc7_init {fr : Nat} {M : zM} (hf : 1 ≤ fr) (hthis : M (10, 0) = some (.inr (7, zf7))) (n19 : M (19, 0) = none) (n20 : M (20, 0) = none) (n21 : M (21, 0) = none) : zCv zX7_init fr 3 480 [zr (10, 0)] M (fun M' => M' = zupd (zupd (zupd (zupd (zupd (zupd M (19, 0) (.inl (2, 160, .inl fun _ => 0))) (10, 0) (.inr (7, [zr (19, 0), zn, zn, zi 0, zi 0]))) (20, 0) (.inl (0, 160, .inl fun _ => 0))) (10, 0) (.inr (7, [zr (19, 0), zr (20, 0), zn, zi 0, zi 0]))) (21, 0) (.inl (0, 160, .inl fun _ => 0))) (10, 0) (.inr (7, [zr (19, 0), zr (20, 0), zr (21, 0), zi 0, zi 0]))) := by
  refine z_enter (L := [some (zr (10, 0))]) rfl (by decide +kernel) (Nat.le_of_ble_eq_true rfl) ?_
  refine z_al iX7_init_0 rfl ?_
  refine z_oi iX7_init_1 (by omega) (by decide) ?_
  refine z_al iX7_init_4 rfl ?_
  refine z_co iX7_init_5 ?_
  refine z_newB (a := (19, 0)) (N := 160) iX7_init_8 zac_byte rfl (by decide) n19 (by decide) ?_
  refine z_pf iX7_init_10 ((zupd_k (Nat.ne_of_beq_eq_false rfl)).trans hthis) (show 2 ≤ 10 by decide) (Nat.le_of_ble_eq_true rfl) trivial ?_
  refine z_al iX7_init_13 rfl ?_
  refine z_co iX7_init_14 ?_
  refine z_newI (a := (20, 0)) (N := 160) iX7_init_17 zac_int rfl (by decide) ((zupd_k (Nat.ne_of_beq_eq_false rfl)).trans ((zupd_k (Nat.ne_of_beq_eq_false rfl)).trans n20)) (by decide) ?_
  refine z_pf iX7_init_19 ((zupd_k (Nat.ne_of_beq_eq_false rfl)).trans zupd_s) (show 2 ≤ 10 by decide) (Nat.le_of_ble_eq_true rfl) trivial ?_
  refine z_al iX7_init_22 rfl ?_
  refine z_co iX7_init_23 ?_
  refine z_newI (a := (21, 0)) (N := 160) iX7_init_26 zac_int rfl (by decide) ((zupd_k (Nat.ne_of_beq_eq_false rfl)).trans ((zupd_k (Nat.ne_of_beq_eq_false rfl)).trans ((zupd_k (Nat.ne_of_beq_eq_false rfl)).trans ((zupd_k (Nat.ne_of_beq_eq_false rfl)).trans n21)))) (by decide) ?_
  refine z_pf iX7_init_28 ((zupd_k (Nat.ne_of_beq_eq_false rfl)).trans zupd_s) (show 2 ≤ 10 by decide) (Nat.le_of_ble_eq_true rfl) trivial ?_
  refine z_vret iX7_init_31 rfl ?_
  exact ⟨rfl, rfl⟩
set_option maxRecDepth 20000 in
set_option maxHeartbeats 4000000 in
theorem kc6_init {fr : Nat} {M : zM} (hf : 1 ≤ fr) (hthis : M (12, 0) = some (.inr (6, zf6))) (n22 : M (22, 0) = none) : zCv zX6_init fr 1 64 [zr (12, 0)] M (fun M' => M' = zupd (zupd M (22, 0) (.inl (0, 64, .inl fun _ => 0))) (12, 0) (.inr (6, [zr (22, 0), zi 0]))) := by
  refine z_enter (L := [some (zr (12, 0))]) rfl (by decide +kernel) (Nat.le_of_ble_eq_true rfl) ?_
  refine z_al iX6_init_0 rfl ?_
  refine z_oi iX6_init_1 (by omega) (by decide) ?_
  refine z_al iX6_init_4 rfl ?_
  refine z_co iX6_init_5 ?_
  refine z_newI (a := (22, 0)) (N := 64) iX6_init_7 zac_int rfl (by decide) n22 (by decide) ?_
  refine z_pf iX6_init_9 ((zupd_k (Nat.ne_of_beq_eq_false rfl)).trans hthis) (show 2 ≤ 12 by decide) (Nat.le_of_ble_eq_true rfl) trivial ?_
  refine z_vret iX6_init_12 rfl ?_
  exact ⟨rfl, rfl⟩
set_option maxRecDepth 20000 in
set_option maxHeartbeats 4000000 in
theorem kc8_init {fr : Nat} {M : zM} {t : Nat} (hf : 1 ≤ fr) (hthis : M (23, t) = some (.inr (8, zf8))) (n24 : M (24, t) = none) (n25 : M (25, t) = none) : zCv zX8_init fr 2 163 [zr (23, t)] M (fun M' => M' = zupd (zupd (zupd (zupd M (24, t) (.inl (0, 160, .inl fun _ => 0))) (23, t) (.inr (8, [zr (24, t), zn, zi 0, zi 0]))) (25, t) (.inl (0, 3, .inl fun _ => 0))) (23, t) (.inr (8, [zr (24, t), zr (25, t), zi 0, zi 0]))) := by
  refine z_enter (L := [some (zr (23, t))]) rfl (by decide +kernel) (Nat.le_of_ble_eq_true rfl) ?_
  refine z_al iX8_init_0 rfl ?_
  refine z_oi iX8_init_1 (by omega) (by decide) ?_
  refine z_al iX8_init_4 rfl ?_
  refine z_co iX8_init_5 ?_
  refine z_newI (a := (24, t)) (N := 160) iX8_init_8 zac_int rfl (by decide) n24 (show 2 ≤ 24 by decide) ?_
  refine z_pf iX8_init_10 ((zupd_k (Nat.ne_of_beq_eq_false rfl)).trans hthis) (show 2 ≤ 23 by decide) (Nat.le_of_ble_eq_true rfl) trivial ?_
  refine z_al iX8_init_13 rfl ?_
  refine z_co iX8_init_14 ?_
  refine z_newI (a := (25, t)) (N := 3) iX8_init_15 zac_int rfl (by decide) ((zupd_k (Nat.ne_of_beq_eq_false rfl)).trans ((zupd_k (Nat.ne_of_beq_eq_false rfl)).trans n25)) (show 2 ≤ 25 by decide) ?_
  refine z_pf iX8_init_17 ((zupd_k (Nat.ne_of_beq_eq_false rfl)).trans zupd_s) (show 2 ≤ 23 by decide) (Nat.le_of_ble_eq_true rfl) trivial ?_
  refine z_vret iX8_init_20 rfl ?_
  exact ⟨rfl, rfl⟩
set_option maxRecDepth 20000 in
set_option maxHeartbeats 4000000 in
theorem kc5_init {fr : Nat} {M : zM} {t : Nat} (hf : 1 ≤ fr) (hthis : M (26, t) = some (.inr (5, zf5))) (n27 : M (27, t) = none) : zCv zX5_init fr 1 40 [zr (26, t)] M (fun M' => M' = zupd (zupd (zupd M (26, t) (.inr (5, [zi (-1), zi 0, zn]))) (27, t) (.inl (0, 40, .inl fun _ => 0))) (26, t) (.inr (5, [zi (-1), zi 0, zr (27, t)]))) := by
  refine z_enter (L := [some (zr (26, t))]) rfl (by decide +kernel) (Nat.le_of_ble_eq_true rfl) ?_
  refine z_al iX5_init_0 rfl ?_
  refine z_oi iX5_init_1 (by omega) (by decide) ?_
  refine z_al iX5_init_4 rfl ?_
  refine z_co iX5_init_5 ?_
  refine z_pf iX5_init_6 hthis (show 2 ≤ 26 by decide) (Nat.le_of_ble_eq_true rfl) trivial ?_
  refine z_al iX5_init_9 rfl ?_
  refine z_co iX5_init_10 ?_
  refine z_newI (a := (27, t)) (N := 40) iX5_init_12 zac_int rfl (by decide) ((zupd_k (Nat.ne_of_beq_eq_false rfl)).trans n27) (show 2 ≤ 27 by decide) ?_
  refine z_pf iX5_init_14 ((zupd_k (Nat.ne_of_beq_eq_false rfl)).trans zupd_s) (show 2 ≤ 26 by decide) (Nat.le_of_ble_eq_true rfl) trivial ?_
  refine z_vret iX5_init_17 rfl ?_
  exact ⟨rfl, rfl⟩
set_option maxRecDepth 20000 in
set_option maxHeartbeats 4000000 in
theorem kc3_init {fr : Nat} {M : zM} (hf : 1 ≤ fr) (hthis : M (11, 0) = some (.inr (3, zf3))) : zCv zX3_init fr 0 0 [zr (11, 0), zr (10, 0)] M (fun M' => M' = zupd M (11, 0) (.inr (3, [zr (10, 0), zn, zi 0, zi 0, zi 0]))) := by
  refine z_enter (L := [some (zr (11, 0)), some (zr (10, 0))]) rfl (by decide +kernel) (Nat.le_of_ble_eq_true rfl) ?_
  refine z_al iX3_init_0 rfl ?_
  refine z_oi iX3_init_1 (by omega) (by decide) ?_
  refine z_al iX3_init_4 rfl ?_
  refine z_al iX3_init_5 rfl ?_
  refine z_pf iX3_init_6 hthis (show 2 ≤ 11 by decide) (Nat.le_of_ble_eq_true rfl) trivial ?_
  refine z_vret iX3_init_9 rfl ?_
  exact ⟨rfl, rfl⟩
set_option maxRecDepth 20000 in
set_option maxHeartbeats 4000000 in
theorem kc1_init {fr : Nat} {M : zM} (hf : 2 ≤ fr) (hthis : M (9, 0) = some (.inr (1, zf1))) (n14 : M (14, 0) = none) (n15 : M (15, 0) = none) (n16 : M (16, 0) = none) (n17 : M (17, 0) = none) (n18 : ∀ i, i < 10 → M (18, i) = none) : zCv zX1_init fr 14 92 [zr (9, 0)] M (fun M' => M' (9, 0) = some (.inr (1, [zi 0, zr (14, 0), zr (15, 0), zr (16, 0), zr (17, 0)])) ∧ M' (14, 0) = some (.inl (0, 6, .inl fun _ => 0)) ∧ M' (15, 0) = some (.inl (0, 6, .inl fun _ => 0)) ∧ M' (16, 0) = some (.inl (0, 10, .inl (fgt (fun _ => 0) 10))) ∧ M' (17, 0) = some (.inl (9, 10, .inr (.inr fun r => some (18, r)))) ∧ (∀ r : Nat, r < 10 → M' (18, r) = some (.inl (0, 6, .inl fun _ => 0))) ∧ ∀ a : zAd, a.1 ≠ 9 → a.1 ≠ 14 → a.1 ≠ 15 → a.1 ≠ 16 → a.1 ≠ 17 → a.1 ≠ 18 → M' a = M a) := by
  refine z_enter (L := [some (zr (9, 0))]) rfl (by decide +kernel) (Nat.le_of_ble_eq_true rfl) ?_
  refine z_al iX1_init_0 rfl ?_
  refine z_oi iX1_init_1 (by omega) (by decide) ?_
  refine z_al iX1_init_4 rfl ?_
  refine z_co iX1_init_5 ?_
  refine z_newI (a := (14, 0)) (N := 6) iX1_init_7 zac_int rfl (by decide) n14 (by decide) ?_
  refine z_pf iX1_init_9 ((zupd_k (Nat.ne_of_beq_eq_false rfl)).trans hthis) (show 2 ≤ 9 by decide) (Nat.le_of_ble_eq_true rfl) trivial ?_
  refine z_al iX1_init_12 rfl ?_
  refine z_co iX1_init_13 ?_
  refine z_newI (a := (15, 0)) (N := 6) iX1_init_15 zac_int rfl (by decide) ((zupd_k (Nat.ne_of_beq_eq_false rfl)).trans ((zupd_k (Nat.ne_of_beq_eq_false rfl)).trans n15)) (by decide) ?_
  refine z_pf iX1_init_17 ((zupd_k (Nat.ne_of_beq_eq_false rfl)).trans zupd_s) (show 2 ≤ 9 by decide) (Nat.le_of_ble_eq_true rfl) trivial ?_
  refine z_al iX1_init_20 rfl ?_
  refine z_co iX1_init_21 ?_
  refine z_newI (a := (16, 0)) (N := 10) iX1_init_23 zac_int rfl (by decide) ((zupd_k (Nat.ne_of_beq_eq_false rfl)).trans ((zupd_k (Nat.ne_of_beq_eq_false rfl)).trans ((zupd_k (Nat.ne_of_beq_eq_false rfl)).trans ((zupd_k (Nat.ne_of_beq_eq_false rfl)).trans n16)))) (by decide) ?_
  refine z_pf iX1_init_25 ((zupd_k (Nat.ne_of_beq_eq_false rfl)).trans zupd_s) (show 2 ≤ 9 by decide) (Nat.le_of_ble_eq_true rfl) trivial ?_
  refine z_al iX1_init_28 rfl ?_
  refine z_co iX1_init_29 ?_
  refine z_co iX1_init_31 ?_
  refine z_grid iX1_init_33 ((zupd_k (Nat.ne_of_beq_eq_false rfl)).trans ((zupd_k (Nat.ne_of_beq_eq_false rfl)).trans ((zupd_k (Nat.ne_of_beq_eq_false rfl)).trans ((zupd_k (Nat.ne_of_beq_eq_false rfl)).trans ((zupd_k (Nat.ne_of_beq_eq_false rfl)).trans ((zupd_k (Nat.ne_of_beq_eq_false rfl)).trans n17)))))) (fun i hi => ((zupd_k (Nat.ne_of_beq_eq_false rfl)).trans ((zupd_k (Nat.ne_of_beq_eq_false rfl)).trans ((zupd_k (Nat.ne_of_beq_eq_false rfl)).trans ((zupd_k (Nat.ne_of_beq_eq_false rfl)).trans ((zupd_k (Nat.ne_of_beq_eq_false rfl)).trans ((zupd_k (Nat.ne_of_beq_eq_false rfl)).trans (n18 i hi)))))))) ?_
  refine z_pf iX1_init_37 ((maM_n (by decide) (by decide) 10).trans zupd_s) (show 2 ≤ 9 by decide) (Nat.le_of_ble_eq_true rfl) trivial ?_
  refine z_al iX1_init_40 rfl ?_
  refine z_cv0v (fr' := fr - 1) iX1_init_41 zmX1_forget zupd_s (c1_forget zupd_s ((zupd_k (Nat.ne_of_beq_eq_false rfl)).trans ((maM_n (by decide) (by decide) 10).trans ((zupd_k (Nat.ne_of_beq_eq_false rfl)).trans zupd_s)))) (by omega) (Nat.le_of_ble_eq_true rfl) (fun M1 hq => ?_)
  subst hq
  refine z_vret iX1_init_44 rfl ?_
  refine ⟨rfl, ((zupd_k (Nat.ne_of_beq_eq_false rfl)).trans zupd_s), ((zupd_k (Nat.ne_of_beq_eq_false rfl)).trans ((zupd_k (Nat.ne_of_beq_eq_false rfl)).trans ((maM_n (by decide) (by decide) 10).trans ((zupd_k (Nat.ne_of_beq_eq_false rfl)).trans ((zupd_k (Nat.ne_of_beq_eq_false rfl)).trans ((zupd_k (Nat.ne_of_beq_eq_false rfl)).trans ((zupd_k (Nat.ne_of_beq_eq_false rfl)).trans ((zupd_k (Nat.ne_of_beq_eq_false rfl)).trans zupd_s)))))))), ((zupd_k (Nat.ne_of_beq_eq_false rfl)).trans ((zupd_k (Nat.ne_of_beq_eq_false rfl)).trans ((maM_n (by decide) (by decide) 10).trans ((zupd_k (Nat.ne_of_beq_eq_false rfl)).trans ((zupd_k (Nat.ne_of_beq_eq_false rfl)).trans ((zupd_k (Nat.ne_of_beq_eq_false rfl)).trans zupd_s)))))), zupd_s, ((zupd_k (by decide : (17 : Nat) ≠ 16)).trans ((zupd_k (by decide : (17 : Nat) ≠ 9)).trans ((maM_17 10).trans (by rw [maR_10])))), fun r hr => ((zupd_k (by decide : (18 : Nat) ≠ 16)).trans ((zupd_k (by decide : (18 : Nat) ≠ 9)).trans ((maM_18 10).trans (if_pos hr)))), fun a h9 h14 h15 h16 h17 h18 => ?_⟩
  rw [zupd_k h16, zupd_k h9, maM_n h17 h18 10, zupd_k h9, zupd_k h16, zupd_k h9, zupd_k h15, zupd_k h9, zupd_k h14]
